/-! ===== the class: saving, changing, running, undoing ===== -/
def rotρ (j : Nat) : Nat := if j < 3 then j + 1 else if j = 3 then 0 else j
def rotS (S : Nat → Nat × zF × Int × Int) : Nat → Nat × zF × Int × Int := fun j => S (rotρ j)
def putS (S : Nat → Nat × zF × Int × Int) (m : Nat) (s : Nat × zF × Int × Int) : Nat → Nat × zF × Int × Int := fun j => if j = m then s else S j
def svS (cnt : Nat) (S : Nat → Nat × zF × Int × Int) (s : Nat × zF × Int × Int) : Nat → Nat × zF × Int × Int := if cnt = 4 then putS (rotS S) 3 s else putS S cnt s
def rotσ (σ : Nat → Nat) : Nat → Nat := fun j => σ (rotρ j)
theorem rotρ_lt {j : Nat} (h : j < 5) : rotρ j < 5 := by unfold rotρ; (repeat' split) <;> omega
theorem rotρ_lt4 {j : Nat} (h : j < 4) : rotρ j < 4 := by unfold rotρ; (repeat' split) <;> omega
theorem rotρ_in {i j : Nat} (hi : i < 5) (hj : j < 5) (e : rotρ i = rotρ j) : i = j := by unfold rotρ at e; (repeat' split at e) <;> omega
theorem s_save_tail {h : zH} {σ : Nat → Nat} {cnt : Nat} {t : Int → Int} {L : Nat} {S : Nat → Nat × zF × Int × Int} (hS : CS h σ cnt t L S) {n : Nat} {F : zF} {ad dl : Int} (hT : TS h (oTr (σ 4)) n F ad dl) {m : Nat} (hm : m < 4) : ∃ (σ2 : Nat → Nat) (I3 : Nat → Int → Int) (R3 : Nat → Int → Option Nat), CS (h.1, I3, R3) σ2 (m + 1) t L (putS S m (n, F, ad, dl)) ∧ σ2 4 = σ 4 ∧ TS (h.1, I3, R3) (oTr (σ 4)) n F ad dl ∧ (∀ o, ((1 ≤ o ∧ o < 4) ∨ 260 ≤ o) → I3 o = h.2.1 o ∧ R3 o = h.2.2 o) ∧ Ev M_X6_save 78 [(0, zr (some 0)), (1, zi (m : Int))] [] h (0, 0) (.inl none, (h.1, I3, R3)) := by
  have hM := hS.1
  have hTr := hS.2.2.2.1.2
  have hcn := hS.2.2.2.2.1.1
  have hc4 := hS.2.2.2.2.1.2
  have hK : ∀ j, j < 5 → h.1[oTr (σ j)]? = some (2, 0) := fun j hj => zk_at hM.1 (KK_T _ (hS.2.2.1.1 j hj))
  have hs5 : ∀ j, j < 5 → oTr (σ j) + 51 ≤ 260 := fun j hj => by have := hS.2.2.1.1 j hj; unfold oTr; omega
  obtain ⟨ar, q, len, st, sl, dp, hC, hl, ht, hP⟩ := hT
  obtain ⟨ar0, q0, hC0⟩ := hS.2.2.2.2.2 m hm
  have hap := hS.apart (i := m) (j := 4) (by omega) (by omega) (by omega)
  obtain ⟨I2, ⟨hC2, hf2⟩, kc⟩ := s_copyFrom hC0 hC hap
  have g : ∀ o, o < 5 → I2 o = h.2.1 o := fun o ho => hf2 o (Or.inl (by unfold oTr; omega))
  have hI0 : ∀ o, o ≠ 0 → (zup I2 0 2 ((m : Int) + 1)) o = I2 o := fun o ho => funext fun k => zup_o _ _ _ _ ho
  have hs3 : CS h σ cnt t L S := hS
  obtain ⟨-, ⟨t1, t2, t3⟩, hp, hsv, -, hk⟩ := hS
  refine ⟨σ, zup I2 0 2 ((m : Int) + 1), h.2.2, ⟨hM, ⟨(congrFun (g 1 (by decide)) 1).trans t1, t2, fun p hp => (congrFun (g 2 (by decide)) p).trans (t3 p hp)⟩, hp, hsv, ⟨zup_s I2 0 2 ((m : Int) + 1), by omega⟩, fun j hj => ?_⟩, rfl, ?_, fun o ho => ⟨(hI0 o (by omega)).trans (hf2 o ?_), rfl⟩, ?_⟩
  · unfold putS
    by_cases e : j = m
    · rw [if_pos e]
      subst e
      exact CTx.fr (h := (h.1, I2, h.2.2)) ⟨ar0, q, hC2⟩ (fun o h1 h2 => ⟨hI0 o (by unfold oTr at h1; omega), rfl⟩)
    · rw [if_neg e]
      have ha2 := hs3.apart (i := j) (j := m) (by omega) (by omega) e
      exact (hk j hj).fr (fun o h1 h2 => ⟨(hI0 o (by unfold oTr at h1; omega)).trans (hf2 o (by omega)), rfl⟩)
  · exact TS.fr ⟨ar, q, len, st, sl, dp, hC, hl, ht, hP⟩ (fun o h1 h2 => ⟨(hI0 o (by unfold oTr at h1; omega)).trans (hf2 o (by omega)), rfl⟩)
  · have := hs5 m (by omega)
    rcases ho with ho | ho
    · left; unfold oTr; omega
    · right; omega
  refine Ev.aload_n (pc := 78) (n := (0, 0)) (i := 0) dX6_save_78 rfl rfl ?_
  refine Ev.gR (pc := 79) (n := (0, 0)) (r := (some 4)) dX6_save_79 fl_X6_18 (zk_at hM.1 rfl) rfl hM.2.2.2.2 ?_
  refine Ev.iload_n (pc := 82) (n := (0, 0)) (i := 1) dX6_save_82 rfl rfl ?_
  refine Ev.aa (pc := 83) (n := (0, 0)) (r := (some (oTr (σ m)))) dX6_save_83 (zk_at hM.1 rfl) (by decide) (by omega) (by omega) (hsv.1 m hm) ?_
  refine Ev.aload_n (pc := 84) (n := (0, 0)) (i := 0) dX6_save_84 rfl rfl ?_
  refine Ev.gR (pc := 85) (n := (0, 0)) (r := (some (oTr (σ 4)))) dX6_save_85 fl_X6_27 (zk_at hM.1 rfl) rfl hTr ?_
  refine Ev.callV (pc := 88) (n := (0, 0)) (ob := (oTr (σ m))) (as := [zr (some (oTr (σ 4)))]) (st := []) (kc) dX6_save_88 ok_X5_copyFrom (lk_X6_225 rfl) ⟨(Nat.le_of_ble_eq_true rfl), (Nat.le_of_ble_eq_true rfl)⟩ (hK m (by omega)) ⟨by decide, rfl⟩ rfl (Nat.le_of_ble_eq_true rfl) (Nat.le_of_ble_eq_true rfl) ⟨(Nat.le_of_ble_eq_true rfl), (Nat.le_of_ble_eq_true rfl)⟩ ?_
  refine Ev.aload_n (pc := 91) (n := (0, 0)) (i := 0) dX6_save_91 rfl rfl ?_
  refine Ev.iload_n (pc := 92) (n := (0, 0)) (i := 1) dX6_save_92 rfl rfl ?_
  refine Ev.iconst (pc := 93) (n := (0, 0)) dX6_save_93 ?_
  refine Ev.iadd (pc := 94) (n := (0, 0)) dX6_save_94 ⟨by omega, by omega⟩ ?_
  refine Ev.putI (pc := 95) (n := (0, 0)) dX6_save_95 fl_X6_22 (zk_at hM.1 rfl) rfl rfl (fun h9 => by cases h9) ?_
  exact Ev.vret dX6_save_98 rfl ⟨(Nat.le_of_ble_eq_true rfl), (Nat.le_of_ble_eq_true rfl)⟩
theorem s_save {h : zH} {σ : Nat → Nat} {cnt : Nat} {t : Int → Int} {L : Nat} {S : Nat → Nat × zF × Int × Int} (hS : CS h σ cnt t L S) {n : Nat} {F : zF} {ad dl : Int} (hT : TS h (oTr (σ 4)) n F ad dl) : ∃ (σ2 : Nat → Nat) (I3 : Nat → Int → Int) (R3 : Nat → Int → Option Nat), CS (h.1, I3, R3) σ2 (if cnt = 4 then 4 else cnt + 1) t L (svS cnt S (n, F, ad, dl)) ∧ σ2 4 = σ 4 ∧ TS (h.1, I3, R3) (oTr (σ2 4)) n F ad dl ∧ (∀ o, ((1 ≤ o ∧ o < 4) ∨ 260 ≤ o) → I3 o = h.2.1 o ∧ R3 o = h.2.2 o) ∧ Ev M_X6_save 0 [(0, zr (some 0))] [] h (0, 0) (.inl none, (h.1, I3, R3)) := by
  have hM := hS.1
  have hTr := hS.2.2.2.1.2
  have hcn := hS.2.2.2.2.1.1
  have hc4 := hS.2.2.2.2.1.2
  have hK : ∀ j, j < 5 → h.1[oTr (σ j)]? = some (2, 0) := fun j hj => zk_at hM.1 (KK_T _ (hS.2.2.1.1 j hj))
  have hs5 : ∀ j, j < 5 → oTr (σ j) + 51 ≤ 260 := fun j hj => by have := hS.2.2.1.1 j hj; unfold oTr; omega
  by_cases hc : cnt = 4
  rotate_left
  · skip
    obtain ⟨σ2, I3, R3, k1, k2, k3, k4, k5⟩ := s_save_tail hS hT (m := cnt) (by omega)
    rw [if_neg hc, show svS cnt S (n, F, ad, dl) = putS S cnt (n, F, ad, dl) from if_neg hc]
    refine ⟨σ2, I3, R3, k1, k2, k2 ▸ k3, k4, ?_⟩
    refine Ev.aload_n (pc := 0) (n := (0, 0)) (i := 0) dX6_save_0 rfl rfl ?_
    refine Ev.gI (pc := 1) (n := (0, 0)) (x := (cnt : Int)) dX6_save_1 fl_X6_22 (zk_at hM.1 rfl) rfl hcn ?_
    refine Ev.aload_n (pc := 4) (n := (0, 0)) (i := 0) dX6_save_4 rfl rfl ?_
    refine Ev.gR (pc := 5) (n := (0, 0)) (r := (some 4)) dX6_save_5 fl_X6_18 (zk_at hM.1 rfl) rfl hM.2.2.2.2 ?_
    refine Ev.alen8 (pc := 8) (n := (0, 0)) (v := 4) dX6_save_8 (zk_at hM.1 rfl) rfl ⟨by decide, by decide⟩ ?_
    refine Ev.icmp_lt (pc := 9) (n := (0, 0)) (tgt := 63) dX6_save_9 rfl (fun hc => ?_) (fun hc => absurd hc (by omega))
    refine Ev.aload_n (pc := 63) (n := (0, 0)) (i := 0) dX6_save_63 rfl rfl ?_
    refine Ev.gI (pc := 64) (n := (0, 0)) (x := (cnt : Int)) dX6_save_64 fl_X6_22 (zk_at hM.1 rfl) rfl hcn ?_
    refine Ev.aload_n (pc := 67) (n := (0, 0)) (i := 0) dX6_save_67 rfl rfl ?_
    refine Ev.gR (pc := 68) (n := (0, 0)) (r := (some 4)) dX6_save_68 fl_X6_18 (zk_at hM.1 rfl) rfl hM.2.2.2.2 ?_
    refine Ev.alen8 (pc := 71) (n := (0, 0)) (v := 4) dX6_save_71 (zk_at hM.1 rfl) rfl ⟨by decide, by decide⟩ ?_
    refine Ev.iconst (pc := 72) (n := (0, 0)) dX6_save_72 ?_
    refine Ev.isub (pc := 73) (n := (0, 0)) dX6_save_73 ⟨by omega, by omega⟩ ?_
    refine Ev.mmin (pc := 74) (n := (0, 0)) dX6_save_74 (lk_X6_219 rfl) ⟨(Nat.le_of_ble_eq_true rfl), (Nat.le_of_ble_eq_true rfl)⟩ (Nat.le_of_ble_eq_true rfl) ⟨(Nat.le_of_ble_eq_true rfl), (Nat.le_of_ble_eq_true rfl)⟩ ?_
    rw [if_neg (show ¬ (4 : Int) - 1 < (cnt : Int) by omega)]
    refine Ev.istore_n (pc := 77) (n := (0, 0)) (i := 1) (L' := [(1, zi (cnt : Int)), (0, zr (some 0))]) dX6_save_77 rfl (Nat.le_of_ble_eq_true rfl) rfl ?_
    refine Ev.perm [1, 0] rfl ?_
    exact k5
  · skip
    have q0 : h.2.2 4 0 = some (oTr (σ 0)) := hS.2.2.2.1.1 0 (by decide)
    have q1 : h.2.2 4 1 = some (oTr (σ 1)) := hS.2.2.2.1.1 1 (by decide)
    have q2 : h.2.2 4 2 = some (oTr (σ 2)) := hS.2.2.2.1.1 2 (by decide)
    have q3 : h.2.2 4 3 = some (oTr (σ 3)) := hS.2.2.2.1.1 3 (by decide)
    have hro : ∀ o, o ≠ 4 → (zup (zup (zup (zup h.2.2 4 0 (some (oTr (σ 1)))) 4 1 (some (oTr (σ 2)))) 4 2 (some (oTr (σ 3)))) 4 3 (some (oTr (σ 0)))) o = h.2.2 o := fun o ho => funext fun k => by
      rw [zup_o _ _ _ _ ho, zup_o _ _ _ _ ho, zup_o _ _ _ _ ho, zup_o _ _ _ _ ho]
    have hS9 : CS (h.1, h.2.1, (zup (zup (zup (zup h.2.2 4 0 (some (oTr (σ 1)))) 4 1 (some (oTr (σ 2)))) 4 2 (some (oTr (σ 3)))) 4 3 (some (oTr (σ 0))))) (rotσ σ) 4 t L (rotS S) := by
      obtain ⟨⟨m1, m2, m3, m4, m5⟩, hx, ⟨p1, p2⟩, ⟨s1, s2⟩, ⟨c1, c2⟩, k⟩ := hS
      refine ⟨⟨m1, ?_, ?_, ?_, ?_⟩, hx, ⟨fun j hj => ?_, fun i j hi hj e => ?_⟩, ⟨fun j hj => ?_, ?_⟩, ⟨?_, by decide⟩, fun j hj => ?_⟩
      · exact (congrFun (hro 1 (by decide)) 0).trans m2
      · exact (congrFun (hro 1 (by decide)) 2).trans m3
      · exact (congrFun (hro 0 (by decide)) 0).trans m4
      · exact (congrFun (hro 0 (by decide)) 1).trans m5
      · exact p1 _ (rotρ_lt hj)
      · exact rotρ_in hi hj (p2 _ _ (rotρ_lt hi) (rotρ_lt hj) e)
      · rcases (show j = 0 ∨ j = 1 ∨ j = 2 ∨ j = 3 by omega) with rfl | rfl | rfl | rfl
        · show (zup (zup (zup (zup h.2.2 4 0 (some (oTr (σ 1)))) 4 1 (some (oTr (σ 2)))) 4 2 (some (oTr (σ 3)))) 4 3 (some (oTr (σ 0)))) 4 0 = some (oTr (σ 1))
          rw [zup_k _ _ _ _ (by decide), zup_k _ _ _ _ (by decide), zup_k _ _ _ _ (by decide), zup_s]
        · show (zup (zup (zup (zup h.2.2 4 0 (some (oTr (σ 1)))) 4 1 (some (oTr (σ 2)))) 4 2 (some (oTr (σ 3)))) 4 3 (some (oTr (σ 0)))) 4 1 = some (oTr (σ 2))
          rw [zup_k _ _ _ _ (by decide), zup_k _ _ _ _ (by decide), zup_s]
        · show (zup (zup (zup (zup h.2.2 4 0 (some (oTr (σ 1)))) 4 1 (some (oTr (σ 2)))) 4 2 (some (oTr (σ 3)))) 4 3 (some (oTr (σ 0)))) 4 2 = some (oTr (σ 3))
          rw [zup_k _ _ _ _ (by decide), zup_s]
        · show (zup (zup (zup (zup h.2.2 4 0 (some (oTr (σ 1)))) 4 1 (some (oTr (σ 2)))) 4 2 (some (oTr (σ 3)))) 4 3 (some (oTr (σ 0)))) 4 3 = some (oTr (σ 0))
          rw [zup_s]
      · exact (congrFun (hro 0 (by decide)) 3).trans s2
      · show h.2.1 0 2 = ((4 : Nat) : Int)
        omega
      · exact (k _ (rotρ_lt4 hj)).fr (fun o h1 h2 => ⟨rfl, hro o (by unfold oTr at h1; omega)⟩)
    have hT9 : TS (h.1, h.2.1, (zup (zup (zup (zup h.2.2 4 0 (some (oTr (σ 1)))) 4 1 (some (oTr (σ 2)))) 4 2 (some (oTr (σ 3)))) 4 3 (some (oTr (σ 0))))) (oTr (rotσ σ 4)) n F ad dl := TS.fr (h := h) hT (fun o h1 h2 => ⟨rfl, hro o (by have h3 : oTr (rotσ σ 4) = oTr (σ 4) := rfl; unfold oTr at h1; omega)⟩)
    obtain ⟨σ2, I3, R3, k1, k2, k3, k4, k5⟩ := s_save_tail hS9 hT9 (m := 3) (by omega)
    rw [if_pos hc, show svS cnt S (n, F, ad, dl) = putS (rotS S) 3 (n, F, ad, dl) from if_pos hc]
    refine ⟨σ2, I3, R3, k1, k2, k2 ▸ k3, fun o ho => ⟨(k4 o ho).1, (k4 o ho).2.trans (hro o (by omega))⟩, ?_⟩
    refine Ev.aload_n (pc := 0) (n := (0, 0)) (i := 0) dX6_save_0 rfl rfl ?_
    refine Ev.gI (pc := 1) (n := (0, 0)) (x := (cnt : Int)) dX6_save_1 fl_X6_22 (zk_at hM.1 rfl) rfl hcn ?_
    refine Ev.aload_n (pc := 4) (n := (0, 0)) (i := 0) dX6_save_4 rfl rfl ?_
    refine Ev.gR (pc := 5) (n := (0, 0)) (r := (some 4)) dX6_save_5 fl_X6_18 (zk_at hM.1 rfl) rfl hM.2.2.2.2 ?_
    refine Ev.alen8 (pc := 8) (n := (0, 0)) (v := 4) dX6_save_8 (zk_at hM.1 rfl) rfl ⟨by decide, by decide⟩ ?_
    refine Ev.icmp_lt (pc := 9) (n := (0, 0)) (tgt := 63) dX6_save_9 rfl (fun hc => absurd hc (by omega)) (fun hc => ?_)
    refine Ev.aload_n (pc := 12) (n := (0, 0)) (i := 0) dX6_save_12 rfl rfl ?_
    refine Ev.gR (pc := 13) (n := (0, 0)) (r := (some 4)) dX6_save_13 fl_X6_18 (zk_at hM.1 rfl) rfl hM.2.2.2.2 ?_
    refine Ev.iconst (pc := 16) (n := (0, 0)) dX6_save_16 ?_
    refine Ev.aa (pc := 17) (n := (0, 0)) (r := (some (oTr (σ 0)))) dX6_save_17 (zk_at hM.1 rfl) (by decide) (by omega) (by omega) q0 ?_
    refine Ev.astore_n (pc := 18) (n := (0, 0)) (i := 1) (L' := [(1, zr (some (oTr (σ 0)))), (0, zr (some 0))]) dX6_save_18 rfl (Nat.le_of_ble_eq_true rfl) rfl ?_
    refine Ev.iconst (pc := 19) (n := (0, 0)) dX6_save_19 ?_
    refine Ev.istore_n (pc := 20) (n := (0, 0)) (i := 2) (L' := [(2, zi 1), (1, zr (some (oTr (σ 0)))), (0, zr (some 0))]) dX6_save_20 rfl (Nat.le_of_ble_eq_true rfl) rfl ?_
    refine Ev.iload_n (pc := 21) (n := (0, 0)) (i := 2) dX6_save_21 rfl rfl ?_
    refine Ev.aload_n (pc := 22) (n := (0, 0)) (i := 0) dX6_save_22 rfl rfl ?_
    refine Ev.gR (pc := 23) (n := (0, 0)) (r := (some 4)) dX6_save_23 fl_X6_18 (zk_at hM.1 rfl) rfl hM.2.2.2.2 ?_
    refine Ev.alen8 (pc := 26) (n := (0, 0)) (v := 4) dX6_save_26 (zk_at hM.1 rfl) rfl ⟨by decide, by decide⟩ ?_
    refine Ev.icmp_ge (pc := 27) (n := (0, 0)) (tgt := 50) dX6_save_27 rfl (fun hc => absurd hc (by decide)) (fun hc => ?_)
    refine Ev.aload_n (pc := 30) (n := (0, 0)) (i := 0) dX6_save_30 rfl rfl ?_
    refine Ev.gR (pc := 31) (n := (0, 0)) (r := (some 4)) dX6_save_31 fl_X6_18 (zk_at hM.1 rfl) rfl hM.2.2.2.2 ?_
    refine Ev.iload_n (pc := 34) (n := (0, 0)) (i := 2) dX6_save_34 rfl rfl ?_
    refine Ev.iconst (pc := 35) (n := (0, 0)) dX6_save_35 ?_
    refine Ev.isub (pc := 36) (n := (0, 0)) dX6_save_36 ⟨by omega, by omega⟩ ?_
    refine Ev.aload_n (pc := 37) (n := (0, 0)) (i := 0) dX6_save_37 rfl rfl ?_
    refine Ev.gR (pc := 38) (n := (0, 0)) (r := (some 4)) dX6_save_38 fl_X6_18 (zk_at hM.1 rfl) rfl hM.2.2.2.2 ?_
    refine Ev.iload_n (pc := 41) (n := (0, 0)) (i := 2) dX6_save_41 rfl rfl ?_
    refine Ev.aa (pc := 42) (n := (0, 0)) (r := (some (oTr (σ 1)))) dX6_save_42 (zk_at hM.1 rfl) (by decide) (by omega) (by omega) (q1) ?_
    refine Ev.aast (pc := 43) (n := (0, 0)) dX6_save_43 (zk_at hM.1 rfl) (by decide) (hK 1 (by decide)) (by omega) (by omega) ?_
    refine Ev.iinc (pc := 44) (n := (0, 0)) (L' := [(2, zi 2), (1, zr (some (oTr (σ 0)))), (0, zr (some 0))]) dX6_save_44 rfl (Nat.le_of_ble_eq_true rfl) ⟨by omega, by omega⟩ rfl ?_
    refine Ev.goto (pc := 47) (n := (0, 0)) (tgt := 21) dX6_save_47 rfl ?_
    refine Ev.iload_n (pc := 21) (n := (0, 0)) (i := 2) dX6_save_21 rfl rfl ?_
    refine Ev.aload_n (pc := 22) (n := (0, 0)) (i := 0) dX6_save_22 rfl rfl ?_
    refine Ev.gR (pc := 23) (n := (0, 0)) (r := (some 4)) dX6_save_23 fl_X6_18 (zk_at hM.1 rfl) rfl hM.2.2.2.2 ?_
    refine Ev.alen8 (pc := 26) (n := (0, 0)) (v := 4) dX6_save_26 (zk_at hM.1 rfl) rfl ⟨by decide, by decide⟩ ?_
    refine Ev.icmp_ge (pc := 27) (n := (0, 0)) (tgt := 50) dX6_save_27 rfl (fun hc => absurd hc (by decide)) (fun hc => ?_)
    refine Ev.aload_n (pc := 30) (n := (0, 0)) (i := 0) dX6_save_30 rfl rfl ?_
    refine Ev.gR (pc := 31) (n := (0, 0)) (r := (some 4)) dX6_save_31 fl_X6_18 (zk_at hM.1 rfl) rfl hM.2.2.2.2 ?_
    refine Ev.iload_n (pc := 34) (n := (0, 0)) (i := 2) dX6_save_34 rfl rfl ?_
    refine Ev.iconst (pc := 35) (n := (0, 0)) dX6_save_35 ?_
    refine Ev.isub (pc := 36) (n := (0, 0)) dX6_save_36 ⟨by omega, by omega⟩ ?_
    refine Ev.aload_n (pc := 37) (n := (0, 0)) (i := 0) dX6_save_37 rfl rfl ?_
    refine Ev.gR (pc := 38) (n := (0, 0)) (r := (some 4)) dX6_save_38 fl_X6_18 (zk_at hM.1 rfl) rfl hM.2.2.2.2 ?_
    refine Ev.iload_n (pc := 41) (n := (0, 0)) (i := 2) dX6_save_41 rfl rfl ?_
    refine Ev.aa (pc := 42) (n := (0, 0)) (r := (some (oTr (σ 2)))) dX6_save_42 (zk_at hM.1 rfl) (by decide) (by omega) (by omega) ((zup_k h.2.2 4 4 (some (oTr (σ 1))) (show (2 : Int) ≠ 1 - 1 by decide)).trans (q2)) ?_
    refine Ev.aast (pc := 43) (n := (0, 0)) dX6_save_43 (zk_at hM.1 rfl) (by decide) (hK 2 (by decide)) (by omega) (by omega) ?_
    refine Ev.iinc (pc := 44) (n := (0, 0)) (L' := [(2, zi 3), (1, zr (some (oTr (σ 0)))), (0, zr (some 0))]) dX6_save_44 rfl (Nat.le_of_ble_eq_true rfl) ⟨by omega, by omega⟩ rfl ?_
    refine Ev.goto (pc := 47) (n := (0, 0)) (tgt := 21) dX6_save_47 rfl ?_
    refine Ev.iload_n (pc := 21) (n := (0, 0)) (i := 2) dX6_save_21 rfl rfl ?_
    refine Ev.aload_n (pc := 22) (n := (0, 0)) (i := 0) dX6_save_22 rfl rfl ?_
    refine Ev.gR (pc := 23) (n := (0, 0)) (r := (some 4)) dX6_save_23 fl_X6_18 (zk_at hM.1 rfl) rfl hM.2.2.2.2 ?_
    refine Ev.alen8 (pc := 26) (n := (0, 0)) (v := 4) dX6_save_26 (zk_at hM.1 rfl) rfl ⟨by decide, by decide⟩ ?_
    refine Ev.icmp_ge (pc := 27) (n := (0, 0)) (tgt := 50) dX6_save_27 rfl (fun hc => absurd hc (by decide)) (fun hc => ?_)
    refine Ev.aload_n (pc := 30) (n := (0, 0)) (i := 0) dX6_save_30 rfl rfl ?_
    refine Ev.gR (pc := 31) (n := (0, 0)) (r := (some 4)) dX6_save_31 fl_X6_18 (zk_at hM.1 rfl) rfl hM.2.2.2.2 ?_
    refine Ev.iload_n (pc := 34) (n := (0, 0)) (i := 2) dX6_save_34 rfl rfl ?_
    refine Ev.iconst (pc := 35) (n := (0, 0)) dX6_save_35 ?_
    refine Ev.isub (pc := 36) (n := (0, 0)) dX6_save_36 ⟨by omega, by omega⟩ ?_
    refine Ev.aload_n (pc := 37) (n := (0, 0)) (i := 0) dX6_save_37 rfl rfl ?_
    refine Ev.gR (pc := 38) (n := (0, 0)) (r := (some 4)) dX6_save_38 fl_X6_18 (zk_at hM.1 rfl) rfl hM.2.2.2.2 ?_
    refine Ev.iload_n (pc := 41) (n := (0, 0)) (i := 2) dX6_save_41 rfl rfl ?_
    refine Ev.aa (pc := 42) (n := (0, 0)) (r := (some (oTr (σ 3)))) dX6_save_42 (zk_at hM.1 rfl) (by decide) (by omega) (by omega) ((zup_k (zup h.2.2 4 (1 - 1) (some (oTr (σ 1)))) 4 4 (some (oTr (σ 2))) (show (3 : Int) ≠ 2 - 1 by decide)).trans ((zup_k h.2.2 4 4 (some (oTr (σ 1))) (show (3 : Int) ≠ 1 - 1 by decide)).trans q3)) ?_
    refine Ev.aast (pc := 43) (n := (0, 0)) dX6_save_43 (zk_at hM.1 rfl) (by decide) (hK 3 (by decide)) (by omega) (by omega) ?_
    refine Ev.iinc (pc := 44) (n := (0, 0)) (L' := [(2, zi 4), (1, zr (some (oTr (σ 0)))), (0, zr (some 0))]) dX6_save_44 rfl (Nat.le_of_ble_eq_true rfl) ⟨by omega, by omega⟩ rfl ?_
    refine Ev.goto (pc := 47) (n := (0, 0)) (tgt := 21) dX6_save_47 rfl ?_
    refine Ev.iload_n (pc := 21) (n := (0, 0)) (i := 2) dX6_save_21 rfl rfl ?_
    refine Ev.aload_n (pc := 22) (n := (0, 0)) (i := 0) dX6_save_22 rfl rfl ?_
    refine Ev.gR (pc := 23) (n := (0, 0)) (r := (some 4)) dX6_save_23 fl_X6_18 (zk_at hM.1 rfl) rfl hM.2.2.2.2 ?_
    refine Ev.alen8 (pc := 26) (n := (0, 0)) (v := 4) dX6_save_26 (zk_at hM.1 rfl) rfl ⟨by decide, by decide⟩ ?_
    refine Ev.icmp_ge (pc := 27) (n := (0, 0)) (tgt := 50) dX6_save_27 rfl (fun hc => ?_) (fun hc => absurd hc (by decide))
    refine Ev.aload_n (pc := 50) (n := (0, 0)) (i := 0) dX6_save_50 rfl rfl ?_
    refine Ev.gR (pc := 51) (n := (0, 0)) (r := (some 4)) dX6_save_51 fl_X6_18 (zk_at hM.1 rfl) rfl hM.2.2.2.2 ?_
    refine Ev.aload_n (pc := 54) (n := (0, 0)) (i := 0) dX6_save_54 rfl rfl ?_
    refine Ev.gR (pc := 55) (n := (0, 0)) (r := (some 4)) dX6_save_55 fl_X6_18 (zk_at hM.1 rfl) rfl hM.2.2.2.2 ?_
    refine Ev.alen8 (pc := 58) (n := (0, 0)) (v := 4) dX6_save_58 (zk_at hM.1 rfl) rfl ⟨by decide, by decide⟩ ?_
    refine Ev.iconst (pc := 59) (n := (0, 0)) dX6_save_59 ?_
    refine Ev.isub (pc := 60) (n := (0, 0)) dX6_save_60 ⟨by omega, by omega⟩ ?_
    refine Ev.aload_n (pc := 61) (n := (0, 0)) (i := 1) dX6_save_61 rfl rfl ?_
    refine Ev.aast (pc := 62) (n := (0, 0)) dX6_save_62 (zk_at hM.1 rfl) (by decide) (hK 0 (by decide)) (by omega) (by omega) ?_
    refine Ev.aload_n (pc := 63) (n := (0, 0)) (i := 0) dX6_save_63 rfl rfl ?_
    refine Ev.gI (pc := 64) (n := (0, 0)) (x := (cnt : Int)) dX6_save_64 fl_X6_22 (zk_at hM.1 rfl) rfl hcn ?_
    refine Ev.aload_n (pc := 67) (n := (0, 0)) (i := 0) dX6_save_67 rfl rfl ?_
    refine Ev.gR (pc := 68) (n := (0, 0)) (r := (some 4)) dX6_save_68 fl_X6_18 (zk_at hM.1 rfl) rfl hM.2.2.2.2 ?_
    refine Ev.alen8 (pc := 71) (n := (0, 0)) (v := 4) dX6_save_71 (zk_at hM.1 rfl) rfl ⟨by decide, by decide⟩ ?_
    refine Ev.iconst (pc := 72) (n := (0, 0)) dX6_save_72 ?_
    refine Ev.isub (pc := 73) (n := (0, 0)) dX6_save_73 ⟨by omega, by omega⟩ ?_
    refine Ev.mmin (pc := 74) (n := (0, 0)) dX6_save_74 (lk_X6_219 rfl) ⟨(Nat.le_of_ble_eq_true rfl), (Nat.le_of_ble_eq_true rfl)⟩ (Nat.le_of_ble_eq_true rfl) ⟨(Nat.le_of_ble_eq_true rfl), (Nat.le_of_ble_eq_true rfl)⟩ ?_
    rw [if_pos (show (4 : Int) - 1 < (cnt : Int) by omega)]
    refine Ev.istore_n (pc := 77) (n := (0, 0)) (i := 1) (L' := [(1, zi (4 - 1)), (2, zi 4), (0, zr (some 0))]) dX6_save_77 rfl (Nat.le_of_ble_eq_true rfl) rfl ?_
    refine Ev.perm [2, 0] rfl ?_
    exact k5
