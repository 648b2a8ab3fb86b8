/-! ===== constructors: the class; the law begins ===== -/
def SFi (i : Nat) (I : Nat → Int → Int) (R : Nat → Int → Option Nat) : Prop := (I 1 1 = 0 ∧ I 0 2 = 0) ∧ (R 0 0 = some 1 ∧ R 0 1 = some 4 ∧ R 0 3 = some 5 ∧ R 1 0 = some 2 ∧ R 1 2 = some 3) ∧ (FTi 5 24 I R ∧ ∀ j : Nat, j < i → FTi (56 + 51 * j) 24 I R ∧ R 4 j = some (56 + 51 * j)) ∧ zFrs I R (56 + 51 * i) 260
theorem SFi.step {i : Nat} {I I2 : Nat → Int → Int} {R R2 : Nat → Int → Option Nat} (h : SFi i I R) (hi : i < 4) (f1 : FTi (56 + 51 * i) 24 I2 R2) (f2 : ∀ o, (o < (56 + 51 * i) ∨ (56 + 51 * i) + 51 ≤ o) → I2 o = I o ∧ R2 o = R o) : SFi (i + 1) I2 (zup R2 4 (i : Int) (some (56 + 51 * i))) := by
  obtain ⟨h1, h2, ⟨h3, h4⟩, h5⟩ := h
  have e0 := f2 0 (by omega)
  have e1 := f2 1 (by omega)
  have e4 := f2 4 (by omega)
  have z : ∀ o, o ≠ 4 → zup R2 4 (i : Int) (some (56 + 51 * i)) o = R2 o := fun o ho => funext fun k => zup_o _ _ _ _ ho
  refine ⟨?_, ?_, ⟨?_, fun j hj => ?_⟩, fun o a b => ?_⟩
  · rw [e0.1, e1.1]
    exact h1
  · rw [z 0 (by decide), z 1 (by decide), e0.2, e1.2]
    exact h2
  · exact h3.fr (by decide) fun o a b => ⟨(f2 o (by omega)).1, (z o (by omega)).trans (f2 o (by omega)).2⟩
  · by_cases c : j = i
    · subst c
      exact ⟨f1.fr (by decide) fun o a b => ⟨rfl, z o (by omega)⟩, zup_s _ _ _ _⟩
    · refine ⟨(h4 j (by omega)).1.fr (by decide) fun o a b => ⟨(f2 o (by omega)).1, (z o (by omega)).trans (f2 o (by omega)).2⟩, ?_⟩
      rw [zup_k _ _ _ _ (by omega), e4.2]
      exact (h4 j (by omega)).2
  · rw [z o (by omega), (f2 o (by omega)).1, (f2 o (by omega)).2]
    exact h5 o (by omega) b
theorem KT_56 {i : Nat} (hi : i < 4) : KT (56 + 51 * i) := by
  have h := KT_of (t := i + 1) (by omega)
  rw [show 5 + 51 * (i + 1) = 56 + 51 * i by omega] at h
  exact h
theorem s_X6_loop : ∀ (j i m : Nat) (I : Nat → Int → Int) (R : Nat → Int → Option Nat) (n : Nat × Nat), i + j = 4 → m = (56 + 51 * i) → n = (55 + 51 * i, 671 + 509 * i) → SFi i I R → ∃ (I' : Nat → Int → Int) (R' : Nat → Int → Option Nat), Ev M_X6_init 41 [(1, zi (i : Int)), (0, zr (some 0))] [] (KK.take m, I, R) n (.inl none, (KK.take 260, I', R')) ∧ SFi 4 I' R' ∧ ∀ o, 260 ≤ o → I' o = I o ∧ R' o = R o := by
  intro j
  induction j with
  | zero =>
    intro i m I R n hij hm hn hF
    subst hm
    subst hn
    have hi : i = 4 := by omega
    subst hi
    refine ⟨I, R, ?_, hF, fun _ _ => ⟨rfl, rfl⟩⟩
    refine Ev.iload_n (pc := 41) (i := 1) dX6_init_41 rfl rfl ?_
    refine Ev.aload_n (pc := 42) (i := 0) dX6_init_42 rfl rfl ?_
    refine Ev.gR (pc := 43) (r := some 4) dX6_init_43 fl_X6_18 (kt_at (by decide) rfl) rfl hF.2.1.2.1 ?_
    refine Ev.alen8 (pc := 46) (v := 4) dX6_init_46 (kt_at (by decide) rfl) rfl ⟨by decide, by decide⟩ ?_
    refine Ev.icmp_ge (pc := 47) (tgt := 69) dX6_init_47 rfl (fun hc => ?_) (fun hc => absurd (by omega) hc)
    exact Ev.vret (pc := 69) dX6_init_69 rfl ⟨by decide, by decide⟩
  | succ j ih =>
    intro i m I R n hij hm hn hF
    subst hm
    subst hn
    have hi : i < 4 := by omega
    have hT := KT_56 hi
    obtain ⟨I2, R2, k5, f5, e5⟩ := s_X5_init hT (I := I) (R := R) (fun o a b => hF.2.2.2 o (by omega) (by omega))
    obtain ⟨I', R', kk, f1, f2⟩ := ih (i + 1) ((56 + 51 * i) + 51) I2 (zup R2 4 (i : Int) (some (56 + 51 * i))) (55 + 51 * (i + 1), 671 + 509 * (i + 1)) (by omega) (by omega) rfl (hF.step hi f5 e5)
    refine ⟨I', R', ?_, f1, fun o ho => ?_⟩
    · refine Ev.iload_n (pc := 41) (i := 1) dX6_init_41 rfl rfl ?_
      refine Ev.aload_n (pc := 42) (i := 0) dX6_init_42 rfl rfl ?_
      refine Ev.gR (pc := 43) (r := some 4) dX6_init_43 fl_X6_18 (kt_at (by omega) rfl) rfl hF.2.1.2.1 ?_
      refine Ev.alen8 (pc := 46) (v := 4) dX6_init_46 (kt_at (by omega) rfl) rfl ⟨by decide, by decide⟩ ?_
      refine Ev.icmp_ge (pc := 47) (tgt := 69) dX6_init_47 rfl (fun hc => absurd hc (by omega)) (fun hc => ?_)
      refine Ev.aload_n (pc := 50) (i := 0) dX6_init_50 rfl rfl ?_
      refine Ev.gR (pc := 51) (r := some 4) dX6_init_51 fl_X6_18 (kt_at (by omega) rfl) rfl hF.2.1.2.1 ?_
      refine Ev.iload_n (pc := 54) (i := 1) dX6_init_54 rfl rfl ?_
      refine Ev.newK (pc := 55) (n := (55 + 51 * i, 671 + 509 * i)) (m := (56 + 51 * i)) (c := 2) dX6_init_55 (by decide) (zgw_in (List.mem_of_getElem? (i := 144) (by decide +kernel)) rfl) (zgw_in (List.mem_of_getElem? (i := 146) (by decide +kernel)) rfl) (zgw_in (List.mem_of_getElem? (i := 93) (by decide +kernel)) rfl) hT.1 (hF.2.2.2 (56 + 51 * i) (by omega) (by omega)).1 (hF.2.2.2 (56 + 51 * i) (by omega) (by omega)).2 ⟨by show 55 + 51 * i + 1 ≤ 259; omega, by show 671 + 509 * i + 5 ≤ 2711; omega⟩ ?_
      refine Ev.dup (pc := 58) dX6_init_58 rfl ?_
      refine Ev.callI (pc := 59) (n := (55 + 51 * i + 1, 671 + 509 * i + 5)) (as := []) (st := [zr (some (56 + 51 * i)), zi (i : Int), zr (some 4)]) k5 dX6_init_59 ok_X5_init (lk_X6_26 rfl) rfl rfl ⟨(Nat.le_of_ble_eq_true rfl), (Nat.le_of_ble_eq_true rfl)⟩ rfl (Nat.le_of_ble_eq_true rfl) (Nat.le_of_ble_eq_true rfl) ⟨by show 55 + 51 * i + 1 + 50 ≤ 259; omega, by show 671 + 509 * i + 5 + 504 ≤ 2711; omega⟩ ?_
      refine Ev.aaT (pc := 62) (n := (55 + 51 * i + 1 + 50, 671 + 509 * i + 5 + 504)) (xo := (56 + 51 * i)) (ob := 4) dX6_init_62 (kt_at (by omega) rfl) (Or.inr ⟨rfl, rfl⟩) (kt_at (by omega) hT.1) (by omega) (by omega) ?_
      refine Ev.iinc (pc := 63) (n := (55 + 51 * i + 1 + 50, 671 + 509 * i + 5 + 504)) (L' := [(1, zi ((i : Int) + 1)), (0, zr (some 0))]) dX6_init_63 rfl (Nat.le_of_ble_eq_true rfl) ⟨by omega, by omega⟩ rfl ?_
      refine Ev.goto (pc := 66) (n := (55 + 51 * i + 1 + 50, 671 + 509 * i + 5 + 504)) (tgt := 41) dX6_init_66 rfl ?_
      exact Ev.wide (by show 55 + 51 * i + 1 + 50 ≤ 55 + 51 * (i + 1); omega) (by show 671 + 509 * i + 5 + 504 ≤ 671 + 509 * (i + 1); omega) kk
    · obtain ⟨g1, g2⟩ := f2 o ho
      exact ⟨g1.trans (e5 o (by omega)).1, g2.trans ((funext fun k => zup_o _ _ _ _ (by omega)).trans (e5 o (by omega)).2)⟩
theorem s_X6_init {I : Nat → Int → Int} {R : Nat → Int → Option Nat} (hf : zFrs I R 1 260) : ∃ (I' : Nat → Int → Int) (R' : Nat → Int → Option Nat), Ev M_X6_init 0 [(0, zr (some 0))] [] (KK.take 1, I, R) (0, 0) (.inl none, (KK.take 260, I', R')) ∧ SFi 4 I' R' ∧ ∀ o, 260 ≤ o → I' o = I o ∧ R' o = R o := by
  have zI : ∀ o, 4 ≤ o → (zup (zup (zup (zup I 1 1 0) 1 3 0) 1 4 (-1)) 0 2 0) o = I o := fun o ho => funext fun k => by rw [zup_o _ _ _ _ (by omega), zup_o _ _ _ _ (by omega), zup_o _ _ _ _ (by omega), zup_o _ _ _ _ (by omega)]
  have zR : ∀ o, 4 ≤ o → (zup (zup (zup (zup R 1 0 (some 2)) 1 2 (some 3)) 0 0 (some 1)) 0 1 (some 4)) o = R o := fun o ho => funext fun k => by rw [zup_o _ _ _ _ (by omega), zup_o _ _ _ _ (by omega), zup_o _ _ _ _ (by omega), zup_o _ _ _ _ (by omega)]
  have hfr : zFrs (zup (zup (zup (zup I 1 1 0) 1 3 0) 1 4 (-1)) 0 2 0) (zup (zup (zup (zup R 1 0 (some 2)) 1 2 (some 3)) 0 0 (some 1)) 0 1 (some 4)) (5 + 1) (5 + 51) := fun o a b => by
    rw [zI o (by omega), zR o (by omega)]
    exact hf o (by omega) (by omega)
  obtain ⟨I5, R5, k5, f5, e5⟩ := s_X5_init (T := 5) (KT_of (t := 0) (by decide)) hfr
  have e0 := e5 0 (by decide)
  have e1 := e5 1 (by decide)
  have e4 := e5 4 (by decide)
  have z3 : ∀ o, o ≠ 0 → zup R5 0 3 (some 5) o = R5 o := fun o ho => funext fun k => zup_o _ _ _ _ ho
  have hF : SFi 0 I5 (zup R5 0 3 (some 5)) := by
    refine ⟨⟨?_, ?_⟩, ⟨?_, ?_, ?_, ?_, ?_⟩, ⟨?_, fun j hj => absurd hj (by omega)⟩, fun o a b => ?_⟩
    · rw [e1.1]; simp [zup]
    · rw [e0.1]; simp [zup]
    · rw [zup_k _ _ _ _ (by decide), e0.2]; simp [zup]
    · rw [zup_k _ _ _ _ (by decide), e0.2]; simp [zup]
    · exact zup_s _ _ _ _
    · rw [z3 1 (by decide), e1.2]; simp [zup]
    · rw [z3 1 (by decide), e1.2]; simp [zup]
    · exact f5.fr (by decide) fun o a b => ⟨rfl, z3 o (by omega)⟩
    · rw [z3 o (by omega), (e5 o (by omega)).1, (e5 o (by omega)).2, zI o (by omega), zR o (by omega)]
      exact hf o (by omega) b
  obtain ⟨I', R', kk, f1, f2⟩ := s_X6_loop 4 0 56 _ _ (55, 671) rfl rfl rfl hF
  refine ⟨I', R', ?_, f1, fun o ho => ⟨(f2 o ho).1.trans ((e5 o (by omega)).1.trans (zI o (by omega))), (f2 o ho).2.trans ((z3 o (by omega)).trans ((e5 o (by omega)).2.trans (zR o (by omega))))⟩⟩
  refine Ev.aload_n (pc := 0) (n := (0, 0)) (i := 0) dX6_init_0 rfl rfl ?_
  refine Ev.objInit (pc := 1) (n := (0, 0)) dX6_init_1 (lk_X6_1 rfl) ⟨(Nat.le_of_ble_eq_true rfl), (Nat.le_of_ble_eq_true rfl)⟩ (Nat.le_of_ble_eq_true rfl) rfl ?_
  refine Ev.aload_n (pc := 4) (n := (0, 0)) (i := 0) dX6_init_4 rfl rfl ?_
  refine Ev.newK (pc := 5) (n := (0, 0)) (m := 1) (c := 0) dX6_init_5 (by decide) (zgw_in (List.mem_of_getElem? (i := 119) (by decide +kernel)) rfl) (zgw_in (List.mem_of_getElem? (i := 120) (by decide +kernel)) rfl) (zgw_in (List.mem_of_getElem? (i := 92) (by decide +kernel)) rfl) rfl (fun k => (hf 1 (by decide) (by decide)).1 k) (fun k => (hf 1 (by decide) (by decide)).2 k) ⟨(Nat.le_of_ble_eq_true rfl), (Nat.le_of_ble_eq_true rfl)⟩ ?_
  refine Ev.dup (pc := 8) (n := (1, 5)) dX6_init_8 rfl ?_
  refine Ev.callIN (pc := 9) (n := (1, 5)) (as := []) (st := [zr (some 1), zr (some 0)]) (s_X2_init (fun o a b => hf o (by omega) (by omega))) dX6_init_9 ok_X2_init (lk_X6_9 rfl) rfl rfl ⟨(Nat.le_of_ble_eq_true rfl), (Nat.le_of_ble_eq_true rfl)⟩ rfl (Nat.le_of_ble_eq_true rfl) (Nat.le_of_ble_eq_true rfl) ⟨(Nat.le_of_ble_eq_true rfl), (Nat.le_of_ble_eq_true rfl)⟩ ?_
  refine Ev.puF (pc := 12) (n := (3, 158)) dX6_init_12 fl_X6_10 (kt_at (by decide) rfl) rfl rfl rfl rfl ?_
  refine Ev.aload_n (pc := 15) (n := (3, 158)) (i := 0) dX6_init_15 rfl rfl ?_
  refine Ev.iconst (pc := 16) (n := (3, 158)) dX6_init_16 ?_
  refine Ev.newR (pc := 17) (n := (3, 158)) (m := 4) (N := 4) dX6_init_17 (zgw_in (List.mem_of_getElem? (i := 144) (by decide +kernel)) rfl) rfl (fun k => (by rw [zup_o _ _ _ _ (by decide), zup_o _ _ _ _ (by decide), zup_o _ _ _ _ (by decide)]; exact (hf 4 (by decide) (by decide)).2 k)) rfl (by decide) ⟨(Nat.le_of_ble_eq_true rfl), (Nat.le_of_ble_eq_true rfl)⟩ ?_
  refine Ev.puF (pc := 20) (n := (4, 162)) dX6_init_20 fl_X6_18 (kt_at (by decide) rfl) rfl rfl rfl rfl ?_
  refine Ev.aload_n (pc := 23) (n := (4, 162)) (i := 0) dX6_init_23 rfl rfl ?_
  refine Ev.iconst (pc := 24) (n := (4, 162)) dX6_init_24 ?_
  refine Ev.puI (pc := 25) (n := (4, 162)) dX6_init_25 fl_X6_22 (kt_at (by decide) rfl) rfl rfl (fun h9 => by cases h9) ?_
  refine Ev.aload_n (pc := 28) (n := (4, 162)) (i := 0) dX6_init_28 rfl rfl ?_
  refine Ev.newK (pc := 29) (n := (4, 162)) (m := 5) (c := 2) dX6_init_29 (by decide) (zgw_in (List.mem_of_getElem? (i := 144) (by decide +kernel)) rfl) (zgw_in (List.mem_of_getElem? (i := 146) (by decide +kernel)) rfl) (zgw_in (List.mem_of_getElem? (i := 93) (by decide +kernel)) rfl) rfl (fun k => (by rw [zup_o _ _ _ _ (by decide), zup_o _ _ _ _ (by decide), zup_o _ _ _ _ (by decide), zup_o _ _ _ _ (by decide)]; exact (hf 5 (by decide) (by decide)).1 k)) (fun k => (by rw [zup_o _ _ _ _ (by decide), zup_o _ _ _ _ (by decide), zup_o _ _ _ _ (by decide), zup_o _ _ _ _ (by decide)]; exact (hf 5 (by decide) (by decide)).2 k)) ⟨(Nat.le_of_ble_eq_true rfl), (Nat.le_of_ble_eq_true rfl)⟩ ?_
  refine Ev.dup (pc := 32) (n := (5, 167)) dX6_init_32 rfl ?_
  refine Ev.callI (pc := 33) (n := (5, 167)) (as := []) (st := [zr (some 5), zr (some 0)]) k5 dX6_init_33 ok_X5_init (lk_X6_26 rfl) rfl rfl ⟨(Nat.le_of_ble_eq_true rfl), (Nat.le_of_ble_eq_true rfl)⟩ rfl (Nat.le_of_ble_eq_true rfl) (Nat.le_of_ble_eq_true rfl) ⟨(Nat.le_of_ble_eq_true rfl), (Nat.le_of_ble_eq_true rfl)⟩ ?_
  refine Ev.puR (pc := 36) (n := (55, 671)) dX6_init_36 fl_X6_27 (kt_at (by decide) rfl) rfl rfl ?_
  refine Ev.iconst (pc := 39) (n := (55, 671)) dX6_init_39 ?_
  refine Ev.istore_n (pc := 40) (n := (55, 671)) (i := 1) (L' := [(1, zi 0), (0, zr (some 0))]) dX6_init_40 rfl (Nat.le_of_ble_eq_true rfl) rfl ?_
  exact kk
