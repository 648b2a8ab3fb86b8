/-- the first of the nodes of that row in that place -/
def IsChild (n : Nat) (F : zF) (g r pl : Int) (m : Nat) (c : Int) : Prop := (∃ k : Nat, m ≤ k ∧ k < n ∧ (F k 2 = g ∧ F k 3 = r) ∧ F k 4 = pl ∧ c = F k 0) ∨ (c = -1 ∧ ∀ j : Nat, m ≤ j → j < n → ¬ ((F j 2 = g ∧ F j 3 = r) ∧ F j 4 = pl))
theorem IsChild.skip {n : Nat} {F : zF} {g r pl : Int} {m : Nat} {c : Int} (hno : ¬ ((F m 2 = g ∧ F m 3 = r) ∧ F m 4 = pl)) (h : IsChild n F g r pl (m + 1) c) : IsChild n F g r pl m c := by
  rcases h with ⟨k, h1, h2⟩ | ⟨h1, h2⟩
  · exact Or.inl ⟨k, by omega, h2⟩
  · refine Or.inr ⟨h1, fun j hj1 hj2 => ?_⟩
    by_cases e : j = m
    · subst e; exact hno
    · exact h2 j (by omega) hj2
theorem s_child_loop {h : zH} {I : Nat → Int → Int} {F : zF} (hR : zRM h) {n : Nat} (hn : I 261 0 = n) (hn24 : n ≤ 24) {gr r pl : Int} : ∀ (j k : Nat), k ≤ n → n - k = j → ∃ c : Int, IsChild n F gr r pl k c ∧ Ev M_X7_child 35 [(0, zr (some 260)), (1, zi gr), (2, zi r), (3, zi pl), (4, zi (k : Int))] [] (h.1, zrw I F, h.2.2) (0, 0) (.inl (some (zi c)), (h.1, zrw I F, h.2.2)) := by
  intro j
  induction j with
  | zero =>
    intro k hk hj
    have e : k = n := by omega
    subst e
    refine ⟨-1, Or.inr ⟨rfl, fun j h1 h2 => by omega⟩, ?_⟩
    refine Ev.iload (pc := 35) (n := (0, 0)) dX7_child_35 rfl ?_
    refine Ev.aload_n (pc := 37) (n := (0, 0)) (i := 0) dX7_child_37 rfl rfl ?_
    refine Ev.gR (pc := 38) (n := (0, 0)) (r := (some 261)) dX7_child_38 fl_X7_7 (zk_at hR.1 rfl) rfl hR.2.1 ?_
    refine Ev.iconst (pc := 41) (n := (0, 0)) dX7_child_41 ?_
    refine Ev.ia (pc := 42) (n := (0, 0)) (x := (k : Int)) dX7_child_42 (zk_at hR.1 rfl) (by omega) (by omega) ((zrw_x I F (by omega)).trans hn) ?_
    refine Ev.icmp_ge (pc := 43) (n := (0, 0)) (tgt := 82) dX7_child_43 rfl (fun hc => ?_) (fun hc => absurd hc (by omega))
    refine Ev.iconst (pc := 82) (n := (0, 0)) dX7_child_82 ?_
    exact Ev.iret dX7_child_83 rfl ⟨(Nat.le_of_ble_eq_true rfl), (Nat.le_of_ble_eq_true rfl)⟩
  | succ j ih =>
    intro k hk hj
    have hkn : k < n := by omega
    obtain ⟨c, h1, h2⟩ := ih (k + 1) (by omega) (by omega)
    by_cases hi : F k 2 = gr ∧ F k 3 = r
    · by_cases hp : F k 4 = pl
      · refine ⟨F k 0, Or.inl ⟨k, Nat.le_refl _, hkn, hi, hp, rfl⟩, ?_⟩
        refine Ev.iload (pc := 35) (n := (0, 0)) dX7_child_35 rfl ?_
        refine Ev.aload_n (pc := 37) (n := (0, 0)) (i := 0) dX7_child_37 rfl rfl ?_
        refine Ev.gR (pc := 38) (n := (0, 0)) (r := (some 261)) dX7_child_38 fl_X7_7 (zk_at hR.1 rfl) rfl hR.2.1 ?_
        refine Ev.iconst (pc := 41) (n := (0, 0)) dX7_child_41 ?_
        refine Ev.ia (pc := 42) (n := (0, 0)) (x := (n : Int)) dX7_child_42 (zk_at hR.1 rfl) (by omega) (by omega) ((zrw_x I F (by omega)).trans hn) ?_
        refine Ev.icmp_ge (pc := 43) (n := (0, 0)) (tgt := 82) dX7_child_43 rfl (fun hc => absurd hc (by omega)) (fun hc => ?_)
        refine Ev.aload_n (pc := 46) (n := (0, 0)) (i := 0) dX7_child_46 rfl rfl ?_
        refine Ev.iload (pc := 47) (n := (0, 0)) dX7_child_47 rfl ?_
        refine Ev.iload_n (pc := 49) (n := (0, 0)) (i := 1) dX7_child_49 rfl rfl ?_
        refine Ev.iload_n (pc := 50) (n := (0, 0)) (i := 2) dX7_child_50 rfl rfl ?_
        refine Ev.callV (pc := 51) (n := (0, 0)) (ob := 260) (as := [zi (k : Int), zi gr, zi r]) (st := []) (s_isInF hR ⟨by omega, by omega⟩) dX7_child_51 ok_X7_isIn (lk_X7_64 rfl) ⟨(Nat.le_of_ble_eq_true rfl), (Nat.le_of_ble_eq_true rfl)⟩ (zk_at hR.1 rfl) ⟨by decide, rfl⟩ rfl (Nat.le_of_ble_eq_true rfl) (Nat.le_of_ble_eq_true rfl) ⟨(Nat.le_of_ble_eq_true rfl), (Nat.le_of_ble_eq_true rfl)⟩ ?_
        rw [if_pos hi]
        refine Ev.if_eq (pc := 54) (n := (0, 0)) (tgt := 76) dX7_child_54 rfl (fun hc2 => absurd hc2 (by decide)) (fun hc2 => ?_)
        refine Ev.aload_n (pc := 57) (n := (0, 0)) (i := 0) dX7_child_57 rfl rfl ?_
        refine Ev.iload (pc := 58) (n := (0, 0)) dX7_child_58 rfl ?_
        refine Ev.iconst (pc := 60) (n := (0, 0)) dX7_child_60 ?_
        refine Ev.callV (pc := 61) (n := (0, 0)) (ob := 260) (as := [zi (k : Int), zi 4]) (st := []) (s_ofF hR ⟨by omega, by omega⟩ ⟨by decide, by decide⟩) dX7_child_61 ok_X7_of (lk_X7_49 rfl) ⟨(Nat.le_of_ble_eq_true rfl), (Nat.le_of_ble_eq_true rfl)⟩ (zk_at hR.1 rfl) ⟨by decide, rfl⟩ rfl (Nat.le_of_ble_eq_true rfl) (Nat.le_of_ble_eq_true rfl) ⟨(Nat.le_of_ble_eq_true rfl), (Nat.le_of_ble_eq_true rfl)⟩ ?_
        refine Ev.iload_n (pc := 64) (n := (0, 0)) (i := 3) dX7_child_64 rfl rfl ?_
        refine Ev.icmp_ne (pc := 65) (n := (0, 0)) (tgt := 76) dX7_child_65 rfl (fun hc3 => absurd hp hc3) (fun hc3 => ?_)
        refine Ev.aload_n (pc := 68) (n := (0, 0)) (i := 0) dX7_child_68 rfl rfl ?_
        refine Ev.iload (pc := 69) (n := (0, 0)) dX7_child_69 rfl ?_
        refine Ev.iconst (pc := 71) (n := (0, 0)) dX7_child_71 ?_
        refine Ev.callV (pc := 72) (n := (0, 0)) (ob := 260) (as := [zi (k : Int), zi 0]) (st := []) (s_ofF hR ⟨by omega, by omega⟩ ⟨by decide, by decide⟩) dX7_child_72 ok_X7_of (lk_X7_49 rfl) ⟨(Nat.le_of_ble_eq_true rfl), (Nat.le_of_ble_eq_true rfl)⟩ (zk_at hR.1 rfl) ⟨by decide, rfl⟩ rfl (Nat.le_of_ble_eq_true rfl) (Nat.le_of_ble_eq_true rfl) ⟨(Nat.le_of_ble_eq_true rfl), (Nat.le_of_ble_eq_true rfl)⟩ ?_
        exact Ev.iret dX7_child_75 rfl ⟨(Nat.le_of_ble_eq_true rfl), (Nat.le_of_ble_eq_true rfl)⟩
      · refine ⟨c, h1.skip (fun g => hp g.2), ?_⟩
        refine Ev.iload (pc := 35) (n := (0, 0)) dX7_child_35 rfl ?_
        refine Ev.aload_n (pc := 37) (n := (0, 0)) (i := 0) dX7_child_37 rfl rfl ?_
        refine Ev.gR (pc := 38) (n := (0, 0)) (r := (some 261)) dX7_child_38 fl_X7_7 (zk_at hR.1 rfl) rfl hR.2.1 ?_
        refine Ev.iconst (pc := 41) (n := (0, 0)) dX7_child_41 ?_
        refine Ev.ia (pc := 42) (n := (0, 0)) (x := (n : Int)) dX7_child_42 (zk_at hR.1 rfl) (by omega) (by omega) ((zrw_x I F (by omega)).trans hn) ?_
        refine Ev.icmp_ge (pc := 43) (n := (0, 0)) (tgt := 82) dX7_child_43 rfl (fun hc => absurd hc (by omega)) (fun hc => ?_)
        refine Ev.aload_n (pc := 46) (n := (0, 0)) (i := 0) dX7_child_46 rfl rfl ?_
        refine Ev.iload (pc := 47) (n := (0, 0)) dX7_child_47 rfl ?_
        refine Ev.iload_n (pc := 49) (n := (0, 0)) (i := 1) dX7_child_49 rfl rfl ?_
        refine Ev.iload_n (pc := 50) (n := (0, 0)) (i := 2) dX7_child_50 rfl rfl ?_
        refine Ev.callV (pc := 51) (n := (0, 0)) (ob := 260) (as := [zi (k : Int), zi gr, zi r]) (st := []) (s_isInF hR ⟨by omega, by omega⟩) dX7_child_51 ok_X7_isIn (lk_X7_64 rfl) ⟨(Nat.le_of_ble_eq_true rfl), (Nat.le_of_ble_eq_true rfl)⟩ (zk_at hR.1 rfl) ⟨by decide, rfl⟩ rfl (Nat.le_of_ble_eq_true rfl) (Nat.le_of_ble_eq_true rfl) ⟨(Nat.le_of_ble_eq_true rfl), (Nat.le_of_ble_eq_true rfl)⟩ ?_
        rw [if_pos hi]
        refine Ev.if_eq (pc := 54) (n := (0, 0)) (tgt := 76) dX7_child_54 rfl (fun hc2 => absurd hc2 (by decide)) (fun hc2 => ?_)
        refine Ev.aload_n (pc := 57) (n := (0, 0)) (i := 0) dX7_child_57 rfl rfl ?_
        refine Ev.iload (pc := 58) (n := (0, 0)) dX7_child_58 rfl ?_
        refine Ev.iconst (pc := 60) (n := (0, 0)) dX7_child_60 ?_
        refine Ev.callV (pc := 61) (n := (0, 0)) (ob := 260) (as := [zi (k : Int), zi 4]) (st := []) (s_ofF hR ⟨by omega, by omega⟩ ⟨by decide, by decide⟩) dX7_child_61 ok_X7_of (lk_X7_49 rfl) ⟨(Nat.le_of_ble_eq_true rfl), (Nat.le_of_ble_eq_true rfl)⟩ (zk_at hR.1 rfl) ⟨by decide, rfl⟩ rfl (Nat.le_of_ble_eq_true rfl) (Nat.le_of_ble_eq_true rfl) ⟨(Nat.le_of_ble_eq_true rfl), (Nat.le_of_ble_eq_true rfl)⟩ ?_
        refine Ev.iload_n (pc := 64) (n := (0, 0)) (i := 3) dX7_child_64 rfl rfl ?_
        refine Ev.icmp_ne (pc := 65) (n := (0, 0)) (tgt := 76) dX7_child_65 rfl (fun hc3 => ?_) (fun hc3 => absurd hc3 hp)
        refine Ev.iinc (pc := 76) (n := (0, 0)) (L' := [(4, zi ((k : Int) + 1)), (0, zr (some 260)), (1, zi gr), (2, zi r), (3, zi pl)]) dX7_child_76 rfl (Nat.le_of_ble_eq_true rfl) ⟨by omega, by omega⟩ rfl ?_
        refine Ev.goto (pc := 79) (n := (0, 0)) (tgt := 35) dX7_child_79 rfl ?_
        refine Ev.perm [1, 2, 3, 4, 0] rfl ?_
        exact h2
    · refine ⟨c, h1.skip (fun g => hi g.1), ?_⟩
      refine Ev.iload (pc := 35) (n := (0, 0)) dX7_child_35 rfl ?_
      refine Ev.aload_n (pc := 37) (n := (0, 0)) (i := 0) dX7_child_37 rfl rfl ?_
      refine Ev.gR (pc := 38) (n := (0, 0)) (r := (some 261)) dX7_child_38 fl_X7_7 (zk_at hR.1 rfl) rfl hR.2.1 ?_
      refine Ev.iconst (pc := 41) (n := (0, 0)) dX7_child_41 ?_
      refine Ev.ia (pc := 42) (n := (0, 0)) (x := (n : Int)) dX7_child_42 (zk_at hR.1 rfl) (by omega) (by omega) ((zrw_x I F (by omega)).trans hn) ?_
      refine Ev.icmp_ge (pc := 43) (n := (0, 0)) (tgt := 82) dX7_child_43 rfl (fun hc => absurd hc (by omega)) (fun hc => ?_)
      refine Ev.aload_n (pc := 46) (n := (0, 0)) (i := 0) dX7_child_46 rfl rfl ?_
      refine Ev.iload (pc := 47) (n := (0, 0)) dX7_child_47 rfl ?_
      refine Ev.iload_n (pc := 49) (n := (0, 0)) (i := 1) dX7_child_49 rfl rfl ?_
      refine Ev.iload_n (pc := 50) (n := (0, 0)) (i := 2) dX7_child_50 rfl rfl ?_
      refine Ev.callV (pc := 51) (n := (0, 0)) (ob := 260) (as := [zi (k : Int), zi gr, zi r]) (st := []) (s_isInF hR ⟨by omega, by omega⟩) dX7_child_51 ok_X7_isIn (lk_X7_64 rfl) ⟨(Nat.le_of_ble_eq_true rfl), (Nat.le_of_ble_eq_true rfl)⟩ (zk_at hR.1 rfl) ⟨by decide, rfl⟩ rfl (Nat.le_of_ble_eq_true rfl) (Nat.le_of_ble_eq_true rfl) ⟨(Nat.le_of_ble_eq_true rfl), (Nat.le_of_ble_eq_true rfl)⟩ ?_
      rw [if_neg hi]
      refine Ev.if_eq (pc := 54) (n := (0, 0)) (tgt := 76) dX7_child_54 rfl (fun hc2 => ?_) (fun hc2 => absurd rfl hc2)
      refine Ev.iinc (pc := 76) (n := (0, 0)) (L' := [(4, zi ((k : Int) + 1)), (0, zr (some 260)), (1, zi gr), (2, zi r), (3, zi pl)]) dX7_child_76 rfl (Nat.le_of_ble_eq_true rfl) ⟨by omega, by omega⟩ rfl ?_
      refine Ev.goto (pc := 79) (n := (0, 0)) (tgt := 35) dX7_child_79 rfl ?_
      refine Ev.perm [1, 2, 3, 4, 0] rfl ?_
      exact h2
def bCh (r p : Int) : Int := if (0 ≤ r ∧ r ≤ 3) ∧ 0 ≤ p then 1 else 0
theorem s_child_no {h : zH} {I : Nat → Int → Int} {F : zF} (hR : zRM h) {n : Nat} (hn : I 261 0 = n) (hn24 : n ≤ 24) {gr r pl : Int} (hw0 : ¬ wRow n F gr (bCh r pl) = 0) : Ev M_X7_child 0 [(0, zr (some 260)), (1, zi gr), (2, zi r), (3, zi pl)] [] (h.1, zrw I F, h.2.2) (0, 0) (.inl (some (zi 0)), (h.1, zrw (zup I 260 2 (wRow n F gr (bCh r pl))) F, h.2.2)) := by
  refine Ev.aload_n (pc := 0) (n := (0, 0)) (i := 0) dX7_child_0 rfl rfl ?_
  refine Ev.aload_n (pc := 1) (n := (0, 0)) (i := 0) dX7_child_1 rfl rfl ?_
  refine Ev.iload_n (pc := 2) (n := (0, 0)) (i := 1) dX7_child_2 rfl rfl ?_
  refine Ev.iload_n (pc := 3) (n := (0, 0)) (i := 2) dX7_child_3 rfl rfl ?_
  refine Ev.iconst (pc := 4) (n := (0, 0)) dX7_child_4 ?_
  refine Ev.iconst (pc := 5) (n := (0, 0)) dX7_child_5 ?_
  refine Ev.callS (pc := 6) (n := (0, 0)) (as := [zi r, zi 0, zi 3]) (st := [zi gr, zr (some 260), zr (some 260)]) (s_in (h.1, zrw I F, h.2.2) r 0 3) dX7_child_6 ok_X7_in (lk_X7_91 rfl) ⟨(Nat.le_of_ble_eq_true rfl), (Nat.le_of_ble_eq_true rfl)⟩ rfl (Nat.le_of_ble_eq_true rfl) (Nat.le_of_ble_eq_true rfl) ⟨(Nat.le_of_ble_eq_true rfl), (Nat.le_of_ble_eq_true rfl)⟩ ?_
  by_cases h1 : 0 ≤ r ∧ r ≤ 3
  · skip
    rw [if_pos h1]
    refine Ev.if_eq (pc := 9) (n := (0, 0)) (tgt := 20) dX7_child_9 rfl (fun hc => absurd hc (by decide)) (fun hc => ?_)
    refine Ev.iload_n (pc := 12) (n := (0, 0)) (i := 3) dX7_child_12 rfl rfl ?_
    by_cases h2 : 0 ≤ pl
    · skip
      have eb : (bCh r pl) = 1 := if_pos ⟨h1, h2⟩
      rw [eb] at hw0
      rw [eb]
      refine Ev.if_lt (pc := 13) (n := (0, 0)) (tgt := 20) dX7_child_13 rfl (fun hc2 => absurd hc2 (by omega)) (fun hc2 => ?_)
      refine Ev.iconst (pc := 16) (n := (0, 0)) dX7_child_16 ?_
      refine Ev.goto (pc := 17) (n := (0, 0)) (tgt := 21) dX7_child_17 rfl ?_
      refine Ev.callV (pc := 21) (n := (0, 0)) (ob := 260) (as := [zi gr, zi 1]) (st := [zr (some 260)]) (s_whyNotRow hR hn hn24) dX7_child_21 ok_X7_whyNotRow (lk_X7_171 rfl) ⟨(Nat.le_of_ble_eq_true rfl), (Nat.le_of_ble_eq_true rfl)⟩ (zk_at hR.1 rfl) ⟨by decide, rfl⟩ rfl (Nat.le_of_ble_eq_true rfl) (Nat.le_of_ble_eq_true rfl) ⟨(Nat.le_of_ble_eq_true rfl), (Nat.le_of_ble_eq_true rfl)⟩ ?_
      refine Ev.callV (pc := 24) (n := (0, 0)) (ob := 260) (as := [zi (wRow n F gr 1)]) (st := []) (s_refF (I := I) hR (wRow n F gr 1)) dX7_child_24 ok_X7_isRefused (lk_X7_60 rfl) ⟨(Nat.le_of_ble_eq_true rfl), (Nat.le_of_ble_eq_true rfl)⟩ (zk_at hR.1 rfl) ⟨by decide, rfl⟩ rfl (Nat.le_of_ble_eq_true rfl) (Nat.le_of_ble_eq_true rfl) ⟨(Nat.le_of_ble_eq_true rfl), (Nat.le_of_ble_eq_true rfl)⟩ ?_
      rw [if_neg hw0]
      refine Ev.if_eq (pc := 27) (n := (0, 0)) (tgt := 32) dX7_child_27 rfl (fun hc9 => absurd hc9 (by decide)) (fun hc9 => ?_)
      refine Ev.iconst (pc := 30) (n := (0, 0)) dX7_child_30 ?_
      exact Ev.iret dX7_child_31 rfl ⟨(Nat.le_of_ble_eq_true rfl), (Nat.le_of_ble_eq_true rfl)⟩
    · skip
      have eb : (bCh r pl) = 0 := if_neg (fun e => h2 e.2)
      rw [eb] at hw0
      rw [eb]
      refine Ev.if_lt (pc := 13) (n := (0, 0)) (tgt := 20) dX7_child_13 rfl (fun hc2 => ?_) (fun hc2 => absurd hc2 (by omega))
      refine Ev.iconst (pc := 20) (n := (0, 0)) dX7_child_20 ?_
      refine Ev.callV (pc := 21) (n := (0, 0)) (ob := 260) (as := [zi gr, zi 0]) (st := [zr (some 260)]) (s_whyNotRow hR hn hn24) dX7_child_21 ok_X7_whyNotRow (lk_X7_171 rfl) ⟨(Nat.le_of_ble_eq_true rfl), (Nat.le_of_ble_eq_true rfl)⟩ (zk_at hR.1 rfl) ⟨by decide, rfl⟩ rfl (Nat.le_of_ble_eq_true rfl) (Nat.le_of_ble_eq_true rfl) ⟨(Nat.le_of_ble_eq_true rfl), (Nat.le_of_ble_eq_true rfl)⟩ ?_
      refine Ev.callV (pc := 24) (n := (0, 0)) (ob := 260) (as := [zi (wRow n F gr 0)]) (st := []) (s_refF (I := I) hR (wRow n F gr 0)) dX7_child_24 ok_X7_isRefused (lk_X7_60 rfl) ⟨(Nat.le_of_ble_eq_true rfl), (Nat.le_of_ble_eq_true rfl)⟩ (zk_at hR.1 rfl) ⟨by decide, rfl⟩ rfl (Nat.le_of_ble_eq_true rfl) (Nat.le_of_ble_eq_true rfl) ⟨(Nat.le_of_ble_eq_true rfl), (Nat.le_of_ble_eq_true rfl)⟩ ?_
      rw [if_neg hw0]
      refine Ev.if_eq (pc := 27) (n := (0, 0)) (tgt := 32) dX7_child_27 rfl (fun hc9 => absurd hc9 (by decide)) (fun hc9 => ?_)
      refine Ev.iconst (pc := 30) (n := (0, 0)) dX7_child_30 ?_
      exact Ev.iret dX7_child_31 rfl ⟨(Nat.le_of_ble_eq_true rfl), (Nat.le_of_ble_eq_true rfl)⟩
  · skip
    rw [if_neg h1]
    have eb : (bCh r pl) = 0 := if_neg (fun e => h1 e.1)
    rw [eb] at hw0
    rw [eb]
    refine Ev.if_eq (pc := 9) (n := (0, 0)) (tgt := 20) dX7_child_9 rfl (fun hc => ?_) (fun hc => absurd rfl hc)
    refine Ev.iconst (pc := 20) (n := (0, 0)) dX7_child_20 ?_
    refine Ev.callV (pc := 21) (n := (0, 0)) (ob := 260) (as := [zi gr, zi 0]) (st := [zr (some 260)]) (s_whyNotRow hR hn hn24) dX7_child_21 ok_X7_whyNotRow (lk_X7_171 rfl) ⟨(Nat.le_of_ble_eq_true rfl), (Nat.le_of_ble_eq_true rfl)⟩ (zk_at hR.1 rfl) ⟨by decide, rfl⟩ rfl (Nat.le_of_ble_eq_true rfl) (Nat.le_of_ble_eq_true rfl) ⟨(Nat.le_of_ble_eq_true rfl), (Nat.le_of_ble_eq_true rfl)⟩ ?_
    refine Ev.callV (pc := 24) (n := (0, 0)) (ob := 260) (as := [zi (wRow n F gr 0)]) (st := []) (s_refF (I := I) hR (wRow n F gr 0)) dX7_child_24 ok_X7_isRefused (lk_X7_60 rfl) ⟨(Nat.le_of_ble_eq_true rfl), (Nat.le_of_ble_eq_true rfl)⟩ (zk_at hR.1 rfl) ⟨by decide, rfl⟩ rfl (Nat.le_of_ble_eq_true rfl) (Nat.le_of_ble_eq_true rfl) ⟨(Nat.le_of_ble_eq_true rfl), (Nat.le_of_ble_eq_true rfl)⟩ ?_
    rw [if_neg hw0]
    refine Ev.if_eq (pc := 27) (n := (0, 0)) (tgt := 32) dX7_child_27 rfl (fun hc9 => absurd hc9 (by decide)) (fun hc9 => ?_)
    refine Ev.iconst (pc := 30) (n := (0, 0)) dX7_child_30 ?_
    exact Ev.iret dX7_child_31 rfl ⟨(Nat.le_of_ble_eq_true rfl), (Nat.le_of_ble_eq_true rfl)⟩
theorem s_child {h : zH} {I : Nat → Int → Int} {F : zF} (hR : zRM h) {n : Nat} (hn : I 261 0 = n) (hn24 : n ≤ 24) {gr r pl : Int} (h1 : 0 ≤ r ∧ r ≤ 3) (h2 : 0 ≤ pl) (hw0 : wRow n F gr 1 = 0) : ∃ c : Int, IsChild n F gr r pl 0 c ∧ Ev M_X7_child 0 [(0, zr (some 260)), (1, zi gr), (2, zi r), (3, zi pl)] [] (h.1, zrw I F, h.2.2) (0, 0) (.inl (some (zi c)), (h.1, zrw (zup I 260 2 0) F, h.2.2)) := by
  have hn0 : zup I 260 2 0 261 0 = n := (zup_o _ _ _ _ (by decide)).trans hn
  obtain ⟨c, hc0, k9⟩ := s_child_loop (I := (zup I 260 2 0)) (F := F) hR hn0 hn24 (gr := gr) (r := r) (pl := pl) n 0 (by omega) (by omega)
  refine ⟨c, hc0, ?_⟩
  refine Ev.aload_n (pc := 0) (n := (0, 0)) (i := 0) dX7_child_0 rfl rfl ?_
  refine Ev.aload_n (pc := 1) (n := (0, 0)) (i := 0) dX7_child_1 rfl rfl ?_
  refine Ev.iload_n (pc := 2) (n := (0, 0)) (i := 1) dX7_child_2 rfl rfl ?_
  refine Ev.iload_n (pc := 3) (n := (0, 0)) (i := 2) dX7_child_3 rfl rfl ?_
  refine Ev.iconst (pc := 4) (n := (0, 0)) dX7_child_4 ?_
  refine Ev.iconst (pc := 5) (n := (0, 0)) dX7_child_5 ?_
  refine Ev.callS (pc := 6) (n := (0, 0)) (as := [zi r, zi 0, zi 3]) (st := [zi gr, zr (some 260), zr (some 260)]) (s_in (h.1, zrw I F, h.2.2) r 0 3) dX7_child_6 ok_X7_in (lk_X7_91 rfl) ⟨(Nat.le_of_ble_eq_true rfl), (Nat.le_of_ble_eq_true rfl)⟩ rfl (Nat.le_of_ble_eq_true rfl) (Nat.le_of_ble_eq_true rfl) ⟨(Nat.le_of_ble_eq_true rfl), (Nat.le_of_ble_eq_true rfl)⟩ ?_
  rw [if_pos h1]
  refine Ev.if_eq (pc := 9) (n := (0, 0)) (tgt := 20) dX7_child_9 rfl (fun hc => absurd hc (by decide)) (fun hc => ?_)
  refine Ev.iload_n (pc := 12) (n := (0, 0)) (i := 3) dX7_child_12 rfl rfl ?_
  refine Ev.if_lt (pc := 13) (n := (0, 0)) (tgt := 20) dX7_child_13 rfl (fun hc2 => absurd hc2 (by omega)) (fun hc2 => ?_)
  refine Ev.iconst (pc := 16) (n := (0, 0)) dX7_child_16 ?_
  refine Ev.goto (pc := 17) (n := (0, 0)) (tgt := 21) dX7_child_17 rfl ?_
  refine Ev.callV (pc := 21) (n := (0, 0)) (ob := 260) (as := [zi gr, zi 1]) (st := [zr (some 260)]) (s_whyNotRow hR hn hn24) dX7_child_21 ok_X7_whyNotRow (lk_X7_171 rfl) ⟨(Nat.le_of_ble_eq_true rfl), (Nat.le_of_ble_eq_true rfl)⟩ (zk_at hR.1 rfl) ⟨by decide, rfl⟩ rfl (Nat.le_of_ble_eq_true rfl) (Nat.le_of_ble_eq_true rfl) ⟨(Nat.le_of_ble_eq_true rfl), (Nat.le_of_ble_eq_true rfl)⟩ ?_
  refine Ev.callV (pc := 24) (n := (0, 0)) (ob := 260) (as := [zi (wRow n F gr 1)]) (st := []) (s_refF (I := I) hR (wRow n F gr 1)) dX7_child_24 ok_X7_isRefused (lk_X7_60 rfl) ⟨(Nat.le_of_ble_eq_true rfl), (Nat.le_of_ble_eq_true rfl)⟩ (zk_at hR.1 rfl) ⟨by decide, rfl⟩ rfl (Nat.le_of_ble_eq_true rfl) (Nat.le_of_ble_eq_true rfl) ⟨(Nat.le_of_ble_eq_true rfl), (Nat.le_of_ble_eq_true rfl)⟩ ?_
  rw [hw0]
  rw [if_pos (rfl : (0 : Int) = 0)]
  refine Ev.if_eq (pc := 27) (n := (0, 0)) (tgt := 32) dX7_child_27 rfl (fun hc9 => ?_) (fun hc9 => absurd rfl hc9)
  refine Ev.iconst (pc := 32) (n := (0, 0)) dX7_child_32 ?_
  refine Ev.istore (pc := 33) (n := (0, 0)) (i := 4) (L' := [(4, zi 0), (0, zr (some 260)), (1, zi gr), (2, zi r), (3, zi pl)]) dX7_child_33 (Nat.le_of_ble_eq_true rfl) rfl ?_
  refine Ev.perm [1, 2, 3, 4, 0] rfl ?_
  exact k9
/-- the critical tasks among the first k nodes, by their starts, then by their numbers -/
def CritTo (F : zF) (st sl : Int → Int) (k m : Nat) (A : Nat → Nat) : Prop := m ≤ k ∧ (∀ j, j < m → A j < k ∧ F (A j) 1 = 1 ∧ sl (A j) = 0) ∧ (∀ i j, i < j → j < m → st (A i) < st (A j) ∨ st (A i) = st (A j) ∧ A i < A j) ∧ ∀ x : Nat, x < k → F x 1 = 1 → sl x = 0 → ∃ j, j < m ∧ A j = x
def cIns (A : Nat → Nat) (p k j : Nat) : Nat := if j < p then A j else if j = p then k else A (j - 1)
theorem CritTo.ins {F : zF} {st sl : Int → Int} {k m : Nat} {A : Nat → Nat} (h : CritTo F st sl k m A) {p : Nat} (hp : p ≤ m) (h1 : F k 1 = 1) (h2 : sl k = 0) (hlo : p = 0 ∨ st (A (p - 1)) ≤ st k) (hhi : ∀ j, p ≤ j → j < m → st k < st (A j)) : CritTo F st sl (k + 1) (m + 1) (cIns A p k) := by
  obtain ⟨a1, a2, a3, a4⟩ := h
  have elt : ∀ j, j < p → cIns A p k j = A j := fun j hj => if_pos hj
  have eeq : cIns A p k p = k := by unfold cIns; rw [if_neg (by omega), if_pos rfl]
  have egt : ∀ j, p < j → cIns A p k j = A (j - 1) := fun j hj => by unfold cIns; rw [if_neg (by omega), if_neg (by omega)]
  have hlow : ∀ j, j < p → st (A j) ≤ st k := fun j hj => by
    rcases hlo with e | e
    · omega
    · by_cases ej : j = p - 1
      · subst ej; exact e
      · rcases a3 j (p - 1) (by omega) (by omega) with g | g <;> omega
  refine ⟨by omega, fun j hj => ?_, fun i j hij hj => ?_, fun x hx g1 g2 => ?_⟩
  · by_cases c1 : j < p
    · rw [elt j c1]
      have := a2 j (by omega)
      exact ⟨by omega, this.2⟩
    · by_cases c2 : j = p
      · subst c2; rw [eeq]; exact ⟨by omega, h1, h2⟩
      · rw [egt j (by omega)]
        have := a2 (j - 1) (by omega)
        exact ⟨by omega, this.2⟩
  · by_cases c1 : j < p
    · rw [elt j c1, elt i (by omega)]; exact a3 i j hij (by omega)
    · by_cases c2 : j = p
      · subst c2
        rw [eeq, elt i hij]
        have b1 := hlow i hij
        have b2 := (a2 i (by omega)).1
        omega
      · rw [egt j (by omega)]
        have b3 := hhi (j - 1) (by omega) (by omega)
        by_cases c3 : i < p
        · rw [elt i c3]; exact a3 i (j - 1) (by omega) (by omega)
        · by_cases c4 : i = p
          · subst c4; rw [eeq]; exact Or.inl b3
          · rw [egt i (by omega)]; exact a3 (i - 1) (j - 1) (by omega) (by omega)
  · by_cases c1 : x = k
    · exact ⟨p, by omega, eeq.trans c1.symm⟩
    · obtain ⟨j, hj, e⟩ := a4 x (by omega) g1 g2
      by_cases c2 : j < p
      · exact ⟨j, by omega, (elt j c2).trans e⟩
      · exact ⟨j + 1, by omega, (egt (j + 1) (by omega)).trans e⟩
theorem CritTo.skip {F : zF} {st sl : Int → Int} {k m : Nat} {A : Nat → Nat} (h : CritTo F st sl k m A) (hno : ¬ (F k 1 = 1 ∧ sl k = 0)) : CritTo F st sl (k + 1) m A := by
  obtain ⟨a1, a2, a3, a4⟩ := h
  refine ⟨by omega, fun j hj => ⟨by have := (a2 j hj).1; omega, (a2 j hj).2⟩, a3, fun x hx g1 g2 => ?_⟩
  by_cases c : x = k
  · subst c; exact absurd ⟨g1, g2⟩ hno
  · exact a4 x (by omega) g1 g2
theorem CritTo.none (F : zF) (st sl : Int → Int) (A : Nat → Nat) : CritTo F st sl 0 0 A := ⟨Nat.le_refl _, fun j hj => absurd hj (Nat.not_lt_zero _), fun i j _ hj => absurd hj (Nat.not_lt_zero _), fun x hx => absurd hx (Nat.not_lt_zero _)⟩
theorem s_crit_in {h : zH} {F : zF} (hR : zRM h) {n m k : Nat} (hn24 : n ≤ 24) (hm : m ≤ k) (hk : k < n) {st : Int → Int} {A : Nat → Nat} (hA : ∀ j, j < m → A j < k) : ∀ (p : Nat) (I : Nat → Int → Int), p ≤ m → (∀ x : Nat, x < n → I 264 x = st x) → ((∀ j : Nat, j < p → I 270 j = A j) ∧ (∀ j : Nat, p < j → j ≤ m → I 270 j = A (j - 1)) ∧ (∀ j, p ≤ j → j < m → st k < st (A j))) → ∃ (p2 : Nat) (I2 : Nat → Int → Int), p2 ≤ m ∧ (∀ o, o ≠ 270 → I2 o = I o) ∧ ((∀ j : Nat, j < p2 → I2 270 j = A j) ∧ (∀ j : Nat, p2 < j → j ≤ m → I2 270 j = A (j - 1)) ∧ (∀ j, p2 ≤ j → j < m → st k < st (A j))) ∧ (p2 = 0 ∨ st (A (p2 - 1)) ≤ st k) ∧ ∀ o : zO, Ev M_X7_layCritical 85 [(0, zr (some 260)), (1, zi (m : Int)), (2, zi (k : Int)), (3, zi (p2 : Int))] [] (h.1, zrw I2 F, h.2.2) (0, 0) o → Ev M_X7_layCritical 39 [(0, zr (some 260)), (1, zi (m : Int)), (2, zi (k : Int)), (3, zi (p : Int))] [] (h.1, zrw I F, h.2.2) (0, 0) o := by
  intro p
  induction p with
  | zero =>
    intro I hp hs hi
    refine ⟨0, I, hp, fun _ _ => rfl, hi, Or.inl rfl, fun o hh => ?_⟩
    refine Ev.iload_n (pc := 39) (n := (0, 0)) (i := 3) dX7_layCritical_39 rfl rfl ?_
    refine Ev.if_le (pc := 40) (n := (0, 0)) (tgt := 85) dX7_layCritical_40 rfl (fun hc => ?_) (fun hc => absurd hc (by omega))
    exact hh
  | succ p ih =>
    intro I hp hs hi
    have e1 : ((p + 1 : Nat) : Int) - 1 = (p : Int) := by omega
    have e2 : ((p + 1 : Nat) : Int) + -1 = (p : Int) := by omega
    have v1 : zrw I F 270 (p : Int) = A p := (congrFun (zrw_o I F (by decide)) p).trans (hi.1 p (by omega))
    have b1 := hA p (by omega)
    have v2 : zrw I F 264 (A p : Int) = st (A p) := (congrFun (zrw_o I F (by decide)) _).trans (hs (A p) (by omega))
    have v3 : zrw I F 264 (k : Int) = st k := (congrFun (zrw_o I F (by decide)) _).trans (hs k hk)
    by_cases hc0 : st k < st (A p)
    · have hs2 : ∀ x : Nat, x < n → zup I 270 ((p + 1 : Nat) : Int) (A p) 264 x = st x := fun x hx => (zup_o _ _ _ _ (by decide)).trans (hs x hx)
      obtain ⟨p2, I2, r1, r2, r3, r4, r5⟩ := ih (zup I 270 ((p + 1 : Nat) : Int) (A p)) (by omega) hs2 ⟨fun j hj => (zup_k _ _ _ _ (by omega)).trans (hi.1 j (by omega)), fun j h1 h2 => by
        by_cases ej : j = p + 1
        · subst ej; exact zup_s _ _ _ _
        · exact (zup_k _ _ _ _ (by omega)).trans (hi.2.1 j (by omega) h2), fun j h1 h2 => by
        by_cases ej : j = p
        · subst ej; exact hc0
        · exact hi.2.2 j (by omega) h2⟩
      refine ⟨p2, I2, r1, fun o ho => (r2 o ho).trans (funext fun x => zup_o _ _ _ _ ho), r3, r4, fun o hh => ?_⟩
      refine Ev.iload_n (pc := 39) (n := (0, 0)) (i := 3) dX7_layCritical_39 rfl rfl ?_
      refine Ev.if_le (pc := 40) (n := (0, 0)) (tgt := 85) dX7_layCritical_40 rfl (fun hc => absurd hc (by omega)) (fun hc => ?_)
      refine Ev.aload_n (pc := 43) (n := (0, 0)) (i := 0) dX7_layCritical_43 rfl rfl ?_
      refine Ev.gR (pc := 44) (n := (0, 0)) (r := (some 264)) dX7_layCritical_44 fl_X7_19 (zk_at hR.1 rfl) rfl hR.2.2.2.2.1 ?_
      refine Ev.aload_n (pc := 47) (n := (0, 0)) (i := 0) dX7_layCritical_47 rfl rfl ?_
      refine Ev.gR (pc := 48) (n := (0, 0)) (r := (some 270)) dX7_layCritical_48 fl_X7_38 (zk_at hR.1 rfl) rfl hR.2.2.2.2.2.2.2.2.2.2 ?_
      refine Ev.iload_n (pc := 51) (n := (0, 0)) (i := 3) dX7_layCritical_51 rfl rfl ?_
      refine Ev.iconst (pc := 52) (n := (0, 0)) dX7_layCritical_52 ?_
      refine Ev.isub (pc := 53) (n := (0, 0)) dX7_layCritical_53 ⟨by omega, by omega⟩ ?_
      rw [e1]
      refine Ev.ia (pc := 54) (n := (0, 0)) (x := (A p : Int)) dX7_layCritical_54 (zk_at hR.1 rfl) (by omega) (by omega) v1 ?_
      refine Ev.ia (pc := 55) (n := (0, 0)) (x := (st (A p))) dX7_layCritical_55 (zk_at hR.1 rfl) (by omega) (by omega) v2 ?_
      refine Ev.aload_n (pc := 56) (n := (0, 0)) (i := 0) dX7_layCritical_56 rfl rfl ?_
      refine Ev.gR (pc := 57) (n := (0, 0)) (r := (some 264)) dX7_layCritical_57 fl_X7_19 (zk_at hR.1 rfl) rfl hR.2.2.2.2.1 ?_
      refine Ev.iload_n (pc := 60) (n := (0, 0)) (i := 2) dX7_layCritical_60 rfl rfl ?_
      refine Ev.ia (pc := 61) (n := (0, 0)) (x := (st k)) dX7_layCritical_61 (zk_at hR.1 rfl) (by omega) (by omega) v3 ?_
      refine Ev.icmp_le (pc := 62) (n := (0, 0)) (tgt := 85) dX7_layCritical_62 rfl (fun hc2 => absurd hc2 (by omega)) (fun hc2 => ?_)
      refine Ev.aload_n (pc := 65) (n := (0, 0)) (i := 0) dX7_layCritical_65 rfl rfl ?_
      refine Ev.gR (pc := 66) (n := (0, 0)) (r := (some 270)) dX7_layCritical_66 fl_X7_38 (zk_at hR.1 rfl) rfl hR.2.2.2.2.2.2.2.2.2.2 ?_
      refine Ev.iload_n (pc := 69) (n := (0, 0)) (i := 3) dX7_layCritical_69 rfl rfl ?_
      refine Ev.aload_n (pc := 70) (n := (0, 0)) (i := 0) dX7_layCritical_70 rfl rfl ?_
      refine Ev.gR (pc := 71) (n := (0, 0)) (r := (some 270)) dX7_layCritical_71 fl_X7_38 (zk_at hR.1 rfl) rfl hR.2.2.2.2.2.2.2.2.2.2 ?_
      refine Ev.iload_n (pc := 74) (n := (0, 0)) (i := 3) dX7_layCritical_74 rfl rfl ?_
      refine Ev.iconst (pc := 75) (n := (0, 0)) dX7_layCritical_75 ?_
      refine Ev.isub (pc := 76) (n := (0, 0)) dX7_layCritical_76 ⟨by omega, by omega⟩ ?_
      rw [e1]
      refine Ev.ia (pc := 77) (n := (0, 0)) (x := (A p : Int)) dX7_layCritical_77 (zk_at hR.1 rfl) (by omega) (by omega) v1 ?_
      refine Ev.iast (pc := 78) (n := (0, 0)) dX7_layCritical_78 (zk_at hR.1 rfl) (by omega) (by omega) ?_
      refine Ev.hpeq (h' := (h.1, zrw (zup I 270 ((p + 1 : Nat) : Int) (A p)) F, h.2.2)) (congrArg (fun I9 => (h.1, I9, h.2.2)) (zrw_up2 I F (x := ((p + 1 : Nat) : Int)) (v := A p) (a := 270) (by decide))) ?_
      refine Ev.iinc (pc := 79) (n := (0, 0)) (L' := [(3, zi (((p + 1 : Nat) : Int) + (-1))), (0, zr (some 260)), (1, zi (m : Int)), (2, zi (k : Int))]) dX7_layCritical_79 rfl (Nat.le_of_ble_eq_true rfl) ⟨by omega, by omega⟩ rfl ?_
      rw [e2]
      refine Ev.goto (pc := 82) (n := (0, 0)) (tgt := 39) dX7_layCritical_82 rfl ?_
      refine Ev.perm [1, 2, 3, 0] rfl ?_
      exact r5 o hh
    · refine ⟨p + 1, I, hp, fun _ _ => rfl, hi, Or.inr (by show st (A p) ≤ st k; omega), fun o hh => ?_⟩
      refine Ev.iload_n (pc := 39) (n := (0, 0)) (i := 3) dX7_layCritical_39 rfl rfl ?_
      refine Ev.if_le (pc := 40) (n := (0, 0)) (tgt := 85) dX7_layCritical_40 rfl (fun hc => absurd hc (by omega)) (fun hc => ?_)
      refine Ev.aload_n (pc := 43) (n := (0, 0)) (i := 0) dX7_layCritical_43 rfl rfl ?_
      refine Ev.gR (pc := 44) (n := (0, 0)) (r := (some 264)) dX7_layCritical_44 fl_X7_19 (zk_at hR.1 rfl) rfl hR.2.2.2.2.1 ?_
      refine Ev.aload_n (pc := 47) (n := (0, 0)) (i := 0) dX7_layCritical_47 rfl rfl ?_
      refine Ev.gR (pc := 48) (n := (0, 0)) (r := (some 270)) dX7_layCritical_48 fl_X7_38 (zk_at hR.1 rfl) rfl hR.2.2.2.2.2.2.2.2.2.2 ?_
      refine Ev.iload_n (pc := 51) (n := (0, 0)) (i := 3) dX7_layCritical_51 rfl rfl ?_
      refine Ev.iconst (pc := 52) (n := (0, 0)) dX7_layCritical_52 ?_
      refine Ev.isub (pc := 53) (n := (0, 0)) dX7_layCritical_53 ⟨by omega, by omega⟩ ?_
      rw [e1]
      refine Ev.ia (pc := 54) (n := (0, 0)) (x := (A p : Int)) dX7_layCritical_54 (zk_at hR.1 rfl) (by omega) (by omega) v1 ?_
      refine Ev.ia (pc := 55) (n := (0, 0)) (x := (st (A p))) dX7_layCritical_55 (zk_at hR.1 rfl) (by omega) (by omega) v2 ?_
      refine Ev.aload_n (pc := 56) (n := (0, 0)) (i := 0) dX7_layCritical_56 rfl rfl ?_
      refine Ev.gR (pc := 57) (n := (0, 0)) (r := (some 264)) dX7_layCritical_57 fl_X7_19 (zk_at hR.1 rfl) rfl hR.2.2.2.2.1 ?_
      refine Ev.iload_n (pc := 60) (n := (0, 0)) (i := 2) dX7_layCritical_60 rfl rfl ?_
      refine Ev.ia (pc := 61) (n := (0, 0)) (x := (st k)) dX7_layCritical_61 (zk_at hR.1 rfl) (by omega) (by omega) v3 ?_
      refine Ev.icmp_le (pc := 62) (n := (0, 0)) (tgt := 85) dX7_layCritical_62 rfl (fun hc2 => ?_) (fun hc2 => absurd hc2 (by omega))
      exact hh
theorem s_crit_loop {h : zH} {F : zF} (hR : zRM h) {n : Nat} (hn24 : n ≤ 24) {len st sl dp : Int → Int} : ∀ (j k m : Nat) (A : Nat → Nat) (I : Nat → Int → Int), I 261 0 = n → (∀ x : Nat, x < n → I 263 x = len x ∧ I 264 x = st x ∧ I 265 x = sl x ∧ I 266 x = dp x) → k ≤ n → n - k = j → CritTo F st sl k m A → (∀ j : Nat, j < m → I 270 j = A j) → ∃ (I2 : Nat → Int → Int) (m2 : Nat) (A2 : Nat → Nat), (∀ o, o ≠ 270 → I2 o = I o) ∧ CritTo F st sl n m2 A2 ∧ (∀ j : Nat, j < m2 → I2 270 j = A2 j) ∧ Ev M_X7_layCritical 8 [(0, zr (some 260)), (1, zi (m : Int)), (2, zi (k : Int))] [] (h.1, zrw I F, h.2.2) (0, 0) (.inl (some (zi (m2 : Int))), (h.1, zrw I2 F, h.2.2)) := by
  intro j
  induction j with
  | zero =>
    intro k m A I hn hA hk hj hc0 ha
    have e : k = n := by omega
    subst e
    refine ⟨I, m, A, fun _ _ => rfl, hc0, ha, ?_⟩
    refine Ev.iload_n (pc := 8) (n := (0, 0)) (i := 2) dX7_layCritical_8 rfl rfl ?_
    refine Ev.aload_n (pc := 9) (n := (0, 0)) (i := 0) dX7_layCritical_9 rfl rfl ?_
    refine Ev.gR (pc := 10) (n := (0, 0)) (r := (some 261)) dX7_layCritical_10 fl_X7_7 (zk_at hR.1 rfl) rfl hR.2.1 ?_
    refine Ev.iconst (pc := 13) (n := (0, 0)) dX7_layCritical_13 ?_
    refine Ev.ia (pc := 14) (n := (0, 0)) (x := (k : Int)) dX7_layCritical_14 (zk_at hR.1 rfl) (by omega) (by omega) ((zrw_x I F (by omega)).trans hn) ?_
    refine Ev.icmp_ge (pc := 15) (n := (0, 0)) (tgt := 101) dX7_layCritical_15 rfl (fun hc => ?_) (fun hc => absurd hc (by omega))
    refine Ev.iload_n (pc := 101) (n := (0, 0)) (i := 1) dX7_layCritical_101 rfl rfl ?_
    exact Ev.iret dX7_layCritical_102 rfl ⟨(Nat.le_of_ble_eq_true rfl), (Nat.le_of_ble_eq_true rfl)⟩
  | succ j ih =>
    intro k m A I hn hA hk hj hc0 ha
    have hkn : k < n := by omega
    have hmk := hc0.1
    have v3 : zrw I F 265 (k : Int) = sl k := (congrFun (zrw_o I F (by decide)) _).trans (hA k hkn).2.2.1
    by_cases h1 : F k 1 = 1
    · by_cases h2 : sl k = 0
      · obtain ⟨p, I3, r1, r2, r3, r4, r5⟩ := s_crit_in (F := F) hR hn24 hmk hkn (st := st) (fun j hj => (hc0.2.1 j hj).1) m I (Nat.le_refl _) (fun x hx => (hA x hx).2.1) ⟨ha, fun j h1 h2 => by omega, fun j h1 h2 => by omega⟩
        have hz : ∀ o, o ≠ 270 → zup I3 270 (p : Int) (k : Int) o = I o := fun o ho => (funext fun x => zup_o _ _ _ _ ho).trans (r2 o ho)
        obtain ⟨I2, m2, A2, q1, q2, q3, q4⟩ := ih (k + 1) (m + 1) (cIns A p k) (zup I3 270 (p : Int) (k : Int)) ((congrFun (hz 261 (by decide)) 0).trans hn) (fun x hx => by
          rw [hz 263 (by decide), hz 264 (by decide), hz 265 (by decide), hz 266 (by decide)]; exact hA x hx) (by omega) (by omega) (hc0.ins r1 h1 h2 r4 r3.2.2) (fun j hj => by
          unfold cIns
          by_cases c1 : j < p
          · rw [if_pos c1, zup_k _ _ _ _ (by omega)]; exact r3.1 j c1
          · rw [if_neg c1]
            by_cases c2 : j = p
            · rw [if_pos c2, c2]; exact zup_s _ _ _ _
            · rw [if_neg c2, zup_k _ _ _ _ (by omega)]; exact r3.2.1 j (by omega) (by omega))
        refine ⟨I2, m2, A2, fun o ho => (q1 o ho).trans (hz o ho), q2, q3, ?_⟩
        refine Ev.iload_n (pc := 8) (n := (0, 0)) (i := 2) dX7_layCritical_8 rfl rfl ?_
        refine Ev.aload_n (pc := 9) (n := (0, 0)) (i := 0) dX7_layCritical_9 rfl rfl ?_
        refine Ev.gR (pc := 10) (n := (0, 0)) (r := (some 261)) dX7_layCritical_10 fl_X7_7 (zk_at hR.1 rfl) rfl hR.2.1 ?_
        refine Ev.iconst (pc := 13) (n := (0, 0)) dX7_layCritical_13 ?_
        refine Ev.ia (pc := 14) (n := (0, 0)) (x := (n : Int)) dX7_layCritical_14 (zk_at hR.1 rfl) (by omega) (by omega) ((zrw_x I F (by omega)).trans hn) ?_
        refine Ev.icmp_ge (pc := 15) (n := (0, 0)) (tgt := 101) dX7_layCritical_15 rfl (fun hc => absurd hc (by omega)) (fun hc => ?_)
        refine Ev.aload_n (pc := 18) (n := (0, 0)) (i := 0) dX7_layCritical_18 rfl rfl ?_
        refine Ev.iload_n (pc := 19) (n := (0, 0)) (i := 2) dX7_layCritical_19 rfl rfl ?_
        refine Ev.iconst (pc := 20) (n := (0, 0)) dX7_layCritical_20 ?_
        refine Ev.callV (pc := 21) (n := (0, 0)) (ob := 260) (as := [zi (k : Int), zi 1]) (st := []) (s_ofF hR ⟨by omega, by omega⟩ ⟨by decide, by decide⟩) dX7_layCritical_21 ok_X7_of (lk_X7_49 rfl) ⟨(Nat.le_of_ble_eq_true rfl), (Nat.le_of_ble_eq_true rfl)⟩ (zk_at hR.1 rfl) ⟨by decide, rfl⟩ rfl (Nat.le_of_ble_eq_true rfl) (Nat.le_of_ble_eq_true rfl) ⟨(Nat.le_of_ble_eq_true rfl), (Nat.le_of_ble_eq_true rfl)⟩ ?_
        refine Ev.iconst (pc := 24) (n := (0, 0)) dX7_layCritical_24 ?_
        refine Ev.icmp_ne (pc := 25) (n := (0, 0)) (tgt := 95) dX7_layCritical_25 rfl (fun hc2 => absurd h1 hc2) (fun hc2 => ?_)
        refine Ev.aload_n (pc := 28) (n := (0, 0)) (i := 0) dX7_layCritical_28 rfl rfl ?_
        refine Ev.gR (pc := 29) (n := (0, 0)) (r := (some 265)) dX7_layCritical_29 fl_X7_22 (zk_at hR.1 rfl) rfl hR.2.2.2.2.2.1 ?_
        refine Ev.iload_n (pc := 32) (n := (0, 0)) (i := 2) dX7_layCritical_32 rfl rfl ?_
        refine Ev.ia (pc := 33) (n := (0, 0)) (x := (sl k)) dX7_layCritical_33 (zk_at hR.1 rfl) (by omega) (by omega) v3 ?_
        refine Ev.if_ne (pc := 34) (n := (0, 0)) (tgt := 95) dX7_layCritical_34 rfl (fun hc3 => absurd h2 hc3) (fun hc3 => ?_)
        refine Ev.iload_n (pc := 37) (n := (0, 0)) (i := 1) dX7_layCritical_37 rfl rfl ?_
        refine Ev.istore_n (pc := 38) (n := (0, 0)) (i := 3) (L' := [(3, zi (m : Int)), (0, zr (some 260)), (1, zi (m : Int)), (2, zi (k : Int))]) dX7_layCritical_38 rfl (Nat.le_of_ble_eq_true rfl) rfl ?_
        refine Ev.perm [1, 2, 3, 0] rfl ?_
        refine r5 _ ?_
        refine Ev.aload_n (pc := 85) (n := (0, 0)) (i := 0) dX7_layCritical_85 rfl rfl ?_
        refine Ev.gR (pc := 86) (n := (0, 0)) (r := (some 270)) dX7_layCritical_86 fl_X7_38 (zk_at hR.1 rfl) rfl hR.2.2.2.2.2.2.2.2.2.2 ?_
        refine Ev.iload_n (pc := 89) (n := (0, 0)) (i := 3) dX7_layCritical_89 rfl rfl ?_
        refine Ev.iload_n (pc := 90) (n := (0, 0)) (i := 2) dX7_layCritical_90 rfl rfl ?_
        refine Ev.iast (pc := 91) (n := (0, 0)) dX7_layCritical_91 (zk_at hR.1 rfl) (by omega) (by omega) ?_
        refine Ev.hpeq (h' := (h.1, zrw (zup I3 270 (p : Int) (k : Int)) F, h.2.2)) (congrArg (fun I9 => (h.1, I9, h.2.2)) (zrw_up2 I3 F (x := (p : Int)) (v := (k : Int)) (a := 270) (by decide))) ?_
        refine Ev.iinc (pc := 92) (n := (0, 0)) (L' := [(1, zi ((m : Int) + 1)), (0, zr (some 260)), (2, zi (k : Int)), (3, zi (p : Int))]) dX7_layCritical_92 rfl (Nat.le_of_ble_eq_true rfl) ⟨by omega, by omega⟩ rfl ?_
        refine Ev.iinc (pc := 95) (n := (0, 0)) (L' := [(2, zi ((k : Int) + 1)), (1, zi ((m : Int) + 1)), (0, zr (some 260)), (3, zi (p : Int))]) dX7_layCritical_95 rfl (Nat.le_of_ble_eq_true rfl) ⟨by omega, by omega⟩ rfl ?_
        refine Ev.goto (pc := 98) (n := (0, 0)) (tgt := 8) dX7_layCritical_98 rfl ?_
        refine Ev.perm [2, 1, 0] rfl ?_
        exact q4
      · obtain ⟨I2, m2, A2, q1, q2, q3, q4⟩ := ih (k + 1) m A I hn hA (by omega) (by omega) (hc0.skip (fun g => h2 g.2)) ha
        refine ⟨I2, m2, A2, q1, q2, q3, ?_⟩
        refine Ev.iload_n (pc := 8) (n := (0, 0)) (i := 2) dX7_layCritical_8 rfl rfl ?_
        refine Ev.aload_n (pc := 9) (n := (0, 0)) (i := 0) dX7_layCritical_9 rfl rfl ?_
        refine Ev.gR (pc := 10) (n := (0, 0)) (r := (some 261)) dX7_layCritical_10 fl_X7_7 (zk_at hR.1 rfl) rfl hR.2.1 ?_
        refine Ev.iconst (pc := 13) (n := (0, 0)) dX7_layCritical_13 ?_
        refine Ev.ia (pc := 14) (n := (0, 0)) (x := (n : Int)) dX7_layCritical_14 (zk_at hR.1 rfl) (by omega) (by omega) ((zrw_x I F (by omega)).trans hn) ?_
        refine Ev.icmp_ge (pc := 15) (n := (0, 0)) (tgt := 101) dX7_layCritical_15 rfl (fun hc => absurd hc (by omega)) (fun hc => ?_)
        refine Ev.aload_n (pc := 18) (n := (0, 0)) (i := 0) dX7_layCritical_18 rfl rfl ?_
        refine Ev.iload_n (pc := 19) (n := (0, 0)) (i := 2) dX7_layCritical_19 rfl rfl ?_
        refine Ev.iconst (pc := 20) (n := (0, 0)) dX7_layCritical_20 ?_
        refine Ev.callV (pc := 21) (n := (0, 0)) (ob := 260) (as := [zi (k : Int), zi 1]) (st := []) (s_ofF hR ⟨by omega, by omega⟩ ⟨by decide, by decide⟩) dX7_layCritical_21 ok_X7_of (lk_X7_49 rfl) ⟨(Nat.le_of_ble_eq_true rfl), (Nat.le_of_ble_eq_true rfl)⟩ (zk_at hR.1 rfl) ⟨by decide, rfl⟩ rfl (Nat.le_of_ble_eq_true rfl) (Nat.le_of_ble_eq_true rfl) ⟨(Nat.le_of_ble_eq_true rfl), (Nat.le_of_ble_eq_true rfl)⟩ ?_
        refine Ev.iconst (pc := 24) (n := (0, 0)) dX7_layCritical_24 ?_
        refine Ev.icmp_ne (pc := 25) (n := (0, 0)) (tgt := 95) dX7_layCritical_25 rfl (fun hc2 => absurd h1 hc2) (fun hc2 => ?_)
        refine Ev.aload_n (pc := 28) (n := (0, 0)) (i := 0) dX7_layCritical_28 rfl rfl ?_
        refine Ev.gR (pc := 29) (n := (0, 0)) (r := (some 265)) dX7_layCritical_29 fl_X7_22 (zk_at hR.1 rfl) rfl hR.2.2.2.2.2.1 ?_
        refine Ev.iload_n (pc := 32) (n := (0, 0)) (i := 2) dX7_layCritical_32 rfl rfl ?_
        refine Ev.ia (pc := 33) (n := (0, 0)) (x := (sl k)) dX7_layCritical_33 (zk_at hR.1 rfl) (by omega) (by omega) v3 ?_
        refine Ev.if_ne (pc := 34) (n := (0, 0)) (tgt := 95) dX7_layCritical_34 rfl (fun hc3 => ?_) (fun hc3 => absurd hc3 h2)
        refine Ev.iinc (pc := 95) (n := (0, 0)) (L' := [(2, zi ((k : Int) + 1)), (0, zr (some 260)), (1, zi (m : Int))]) dX7_layCritical_95 rfl (Nat.le_of_ble_eq_true rfl) ⟨by omega, by omega⟩ rfl ?_
        refine Ev.goto (pc := 98) (n := (0, 0)) (tgt := 8) dX7_layCritical_98 rfl ?_
        refine Ev.perm [1, 2, 0] rfl ?_
        exact q4
    · obtain ⟨I2, m2, A2, q1, q2, q3, q4⟩ := ih (k + 1) m A I hn hA (by omega) (by omega) (hc0.skip (fun g => h1 g.1)) ha
      refine ⟨I2, m2, A2, q1, q2, q3, ?_⟩
      refine Ev.iload_n (pc := 8) (n := (0, 0)) (i := 2) dX7_layCritical_8 rfl rfl ?_
      refine Ev.aload_n (pc := 9) (n := (0, 0)) (i := 0) dX7_layCritical_9 rfl rfl ?_
      refine Ev.gR (pc := 10) (n := (0, 0)) (r := (some 261)) dX7_layCritical_10 fl_X7_7 (zk_at hR.1 rfl) rfl hR.2.1 ?_
      refine Ev.iconst (pc := 13) (n := (0, 0)) dX7_layCritical_13 ?_
      refine Ev.ia (pc := 14) (n := (0, 0)) (x := (n : Int)) dX7_layCritical_14 (zk_at hR.1 rfl) (by omega) (by omega) ((zrw_x I F (by omega)).trans hn) ?_
      refine Ev.icmp_ge (pc := 15) (n := (0, 0)) (tgt := 101) dX7_layCritical_15 rfl (fun hc => absurd hc (by omega)) (fun hc => ?_)
      refine Ev.aload_n (pc := 18) (n := (0, 0)) (i := 0) dX7_layCritical_18 rfl rfl ?_
      refine Ev.iload_n (pc := 19) (n := (0, 0)) (i := 2) dX7_layCritical_19 rfl rfl ?_
      refine Ev.iconst (pc := 20) (n := (0, 0)) dX7_layCritical_20 ?_
      refine Ev.callV (pc := 21) (n := (0, 0)) (ob := 260) (as := [zi (k : Int), zi 1]) (st := []) (s_ofF hR ⟨by omega, by omega⟩ ⟨by decide, by decide⟩) dX7_layCritical_21 ok_X7_of (lk_X7_49 rfl) ⟨(Nat.le_of_ble_eq_true rfl), (Nat.le_of_ble_eq_true rfl)⟩ (zk_at hR.1 rfl) ⟨by decide, rfl⟩ rfl (Nat.le_of_ble_eq_true rfl) (Nat.le_of_ble_eq_true rfl) ⟨(Nat.le_of_ble_eq_true rfl), (Nat.le_of_ble_eq_true rfl)⟩ ?_
      refine Ev.iconst (pc := 24) (n := (0, 0)) dX7_layCritical_24 ?_
      refine Ev.icmp_ne (pc := 25) (n := (0, 0)) (tgt := 95) dX7_layCritical_25 rfl (fun hc2 => ?_) (fun hc2 => absurd hc2 h1)
      refine Ev.iinc (pc := 95) (n := (0, 0)) (L' := [(2, zi ((k : Int) + 1)), (0, zr (some 260)), (1, zi (m : Int))]) dX7_layCritical_95 rfl (Nat.le_of_ble_eq_true rfl) ⟨by omega, by omega⟩ rfl ?_
      refine Ev.goto (pc := 98) (n := (0, 0)) (tgt := 8) dX7_layCritical_98 rfl ?_
      refine Ev.perm [1, 2, 0] rfl ?_
      exact q4
theorem s_layCritical {h : zH} {I : Nat → Int → Int} {F : zF} (hR : zRM h) {n : Nat} (hn : I 261 0 = n) (hn24 : n ≤ 24) {dep : Nat → Nat} {B : Int} (hw : WF n F dep B) (hB : 24 * (60 + B) ≤ 1000000000) {len st sl dp : Int → Int} (hl : IsLen n F len) (ht : IsTm n F len st sl dp) : ∃ (I2 : Nat → Int → Int) (m2 : Nat) (A2 : Nat → Nat), zKeep I I2 ∧ CritTo F st sl n m2 A2 ∧ (∀ j : Nat, j < m2 → I2 270 j = A2 j) ∧ (∀ x : Nat, x < n → I2 263 x = len x ∧ I2 264 x = st x ∧ I2 265 x = sl x ∧ I2 266 x = dp x) ∧ Ev M_X7_layCritical 0 [(0, zr (some 260))] [] (h.1, zrw I F, h.2.2) (0, 0) (.inl (some (zi (m2 : Int))), (h.1, zrw I2 F, h.2.2)) := by
  obtain ⟨I1, hL, r⟩ := s_layF (I := I) (F := F) hR hn hw hB hl ht
  obtain ⟨I2, m2, A2, q1, q2, q3, q4⟩ := s_crit_loop (F := F) hR hn24 (len := len) (st := st) (sl := sl) (dp := dp) n 0 0 (fun _ => 0) I1 (hL.keep.x (by omega) hn) hL.2 (by omega) (by omega) (CritTo.none F st sl _) (fun j hj => absurd hj (Nat.not_lt_zero _))
  refine ⟨I2, m2, A2, hL.keep.trans ⟨fun o ho => q1 o (by omega), fun x _ => congrFun (q1 261 (by decide)) x⟩, q2, q3, fun x hx => by
    rw [q1 263 (by decide), q1 264 (by decide), q1 265 (by decide), q1 266 (by decide)]; exact hL.2 x hx, ?_⟩
  refine Ev.aload_n (pc := 0) (n := (0, 0)) (i := 0) dX7_layCritical_0 rfl rfl ?_
  refine Ev.callV (pc := 1) (n := (0, 0)) (ob := 260) (as := []) (st := []) (r) dX7_layCritical_1 ok_X7_lay (lk_X7_84 rfl) ⟨(Nat.le_of_ble_eq_true rfl), (Nat.le_of_ble_eq_true rfl)⟩ (zk_at hR.1 rfl) ⟨by decide, rfl⟩ rfl (Nat.le_of_ble_eq_true rfl) (Nat.le_of_ble_eq_true rfl) ⟨(Nat.le_of_ble_eq_true rfl), (Nat.le_of_ble_eq_true rfl)⟩ ?_
  refine Ev.iconst (pc := 4) (n := (0, 0)) dX7_layCritical_4 ?_
  refine Ev.istore_n (pc := 5) (n := (0, 0)) (i := 1) (L' := [(1, zi 0), (0, zr (some 260))]) dX7_layCritical_5 rfl (Nat.le_of_ble_eq_true rfl) rfl ?_
  refine Ev.iconst (pc := 6) (n := (0, 0)) dX7_layCritical_6 ?_
  refine Ev.istore_n (pc := 7) (n := (0, 0)) (i := 2) (L' := [(2, zi 0), (1, zi 0), (0, zr (some 260))]) dX7_layCritical_7 rfl (Nat.le_of_ble_eq_true rfl) rfl ?_
  refine Ev.perm [2, 1, 0] rfl ?_
  exact q4
theorem s_critical_no {h : zH} {I : Nat → Int → Int} {F : zF} (hR : zRM h) {n : Nat} (hn : I 261 0 = n) (hn24 : n ≤ 24) {t : Int} (ht0 : t < 0) : Ev M_X7_critical 0 [(0, zr (some 260)), (1, zi t)] [] (h.1, zrw I F, h.2.2) (0, 0) (.inl (some (zi 0)), (h.1, zrw (zup I 260 2 1) F, h.2.2)) := by
  refine Ev.aload_n (pc := 0) (n := (0, 0)) (i := 0) dX7_critical_0 rfl rfl ?_
  refine Ev.iload_n (pc := 1) (n := (0, 0)) (i := 1) dX7_critical_1 rfl rfl ?_
  refine Ev.if_ge (pc := 2) (n := (0, 0)) (tgt := 9) dX7_critical_2 rfl (fun hc => absurd hc (by omega)) (fun hc => ?_)
  refine Ev.iconst (pc := 5) (n := (0, 0)) dX7_critical_5 ?_
  refine Ev.goto (pc := 6) (n := (0, 0)) (tgt := 10) dX7_critical_6 rfl ?_
  refine Ev.callV (pc := 10) (n := (0, 0)) (ob := 260) (as := [zi 1]) (st := []) (s_refF (I := I) hR 1) dX7_critical_10 ok_X7_isRefused (lk_X7_60 rfl) ⟨(Nat.le_of_ble_eq_true rfl), (Nat.le_of_ble_eq_true rfl)⟩ (zk_at hR.1 rfl) ⟨by decide, rfl⟩ rfl (Nat.le_of_ble_eq_true rfl) (Nat.le_of_ble_eq_true rfl) ⟨(Nat.le_of_ble_eq_true rfl), (Nat.le_of_ble_eq_true rfl)⟩ ?_
  rw [if_neg (by decide : ¬ (1 : Int) = 0)]
  refine Ev.if_eq (pc := 13) (n := (0, 0)) (tgt := 18) dX7_critical_13 rfl (fun hc9 => absurd hc9 (by decide)) (fun hc9 => ?_)
  refine Ev.iconst (pc := 16) (n := (0, 0)) dX7_critical_16 ?_
  exact Ev.iret dX7_critical_17 rfl ⟨(Nat.le_of_ble_eq_true rfl), (Nat.le_of_ble_eq_true rfl)⟩
theorem s_critical {h : zH} {I : Nat → Int → Int} {F : zF} (hR : zRM h) {n : Nat} (hn : I 261 0 = n) (hn24 : n ≤ 24) {dep : Nat → Nat} {B : Int} (hw : WF n F dep B) (hB : 24 * (60 + B) ≤ 1000000000) {len st sl dp : Int → Int} (hl : IsLen n F len) (ht : IsTm n F len st sl dp) {t : Int} (ht0 : 0 ≤ t) : ∃ (I2 : Nat → Int → Int) (m2 : Nat) (A2 : Nat → Nat), zKeep (zup I 260 2 0) I2 ∧ CritTo F st sl n m2 A2 ∧ Ev M_X7_critical 0 [(0, zr (some 260)), (1, zi t)] [] (h.1, zrw I F, h.2.2) (0, 0) (.inl (some (zi (if t < m2 then F (A2 t.toNat) 0 else -1))), (h.1, zrw I2 F, h.2.2)) := by
  have hn0 : zup I 260 2 0 261 0 = n := (zup_o _ _ _ _ (by decide)).trans hn
  obtain ⟨I2, m2, A2, q1, q2, q3, -, q4⟩ := s_layCritical (I := (zup I 260 2 0)) (F := F) hR hn0 hn24 hw hB hl ht
  have hm9 := q2.1
  refine ⟨I2, m2, A2, q1, q2, ?_⟩
  refine Ev.aload_n (pc := 0) (n := (0, 0)) (i := 0) dX7_critical_0 rfl rfl ?_
  refine Ev.iload_n (pc := 1) (n := (0, 0)) (i := 1) dX7_critical_1 rfl rfl ?_
  refine Ev.if_ge (pc := 2) (n := (0, 0)) (tgt := 9) dX7_critical_2 rfl (fun hc => ?_) (fun hc => absurd ht0 hc)
  refine Ev.iconst (pc := 9) (n := (0, 0)) dX7_critical_9 ?_
  refine Ev.callV (pc := 10) (n := (0, 0)) (ob := 260) (as := [zi 0]) (st := []) (s_refF (I := I) hR 0) dX7_critical_10 ok_X7_isRefused (lk_X7_60 rfl) ⟨(Nat.le_of_ble_eq_true rfl), (Nat.le_of_ble_eq_true rfl)⟩ (zk_at hR.1 rfl) ⟨by decide, rfl⟩ rfl (Nat.le_of_ble_eq_true rfl) (Nat.le_of_ble_eq_true rfl) ⟨(Nat.le_of_ble_eq_true rfl), (Nat.le_of_ble_eq_true rfl)⟩ ?_
  rw [if_pos (rfl : (0 : Int) = 0)]
  refine Ev.if_eq (pc := 13) (n := (0, 0)) (tgt := 18) dX7_critical_13 rfl (fun hc9 => ?_) (fun hc9 => absurd rfl hc9)
  refine Ev.aload_n (pc := 18) (n := (0, 0)) (i := 0) dX7_critical_18 rfl rfl ?_
  refine Ev.callV (pc := 19) (n := (0, 0)) (ob := 260) (as := []) (st := []) (q4) dX7_critical_19 ok_X7_layCritical (lk_X7_177 rfl) ⟨(Nat.le_of_ble_eq_true rfl), (Nat.le_of_ble_eq_true rfl)⟩ (zk_at hR.1 rfl) ⟨by decide, rfl⟩ rfl (Nat.le_of_ble_eq_true rfl) (Nat.le_of_ble_eq_true rfl) ⟨(Nat.le_of_ble_eq_true rfl), (Nat.le_of_ble_eq_true rfl)⟩ ?_
  refine Ev.istore_n (pc := 22) (n := (0, 0)) (i := 2) (L' := [(2, zi (m2 : Int)), (0, zr (some 260)), (1, zi t)]) dX7_critical_22 rfl (Nat.le_of_ble_eq_true rfl) rfl ?_
  refine Ev.iload_n (pc := 23) (n := (0, 0)) (i := 1) dX7_critical_23 rfl rfl ?_
  refine Ev.iload_n (pc := 24) (n := (0, 0)) (i := 2) dX7_critical_24 rfl rfl ?_
  refine Ev.icmp_ge (pc := 25) (n := (0, 0)) (tgt := 42) dX7_critical_25 rfl (fun h1 => ?_) (fun h1 => ?_)
  · skip
    rw [if_neg (by omega)]
    refine Ev.iconst (pc := 42) (n := (0, 0)) dX7_critical_42 ?_
    exact Ev.iret dX7_critical_43 rfl ⟨(Nat.le_of_ble_eq_true rfl), (Nat.le_of_ble_eq_true rfl)⟩
  · skip
    rw [if_pos (by omega)]
    have v1 : zrw I2 F 270 t = A2 t.toNat := by
      have := q3 t.toNat (by omega)
      rw [show ((t.toNat : Nat) : Int) = t by omega] at this
      exact (congrFun (zrw_o I2 F (by decide)) _).trans this
    have b1 := (q2.2.1 t.toNat (by omega)).1
    refine Ev.aload_n (pc := 28) (n := (0, 0)) (i := 0) dX7_critical_28 rfl rfl ?_
    refine Ev.aload_n (pc := 29) (n := (0, 0)) (i := 0) dX7_critical_29 rfl rfl ?_
    refine Ev.gR (pc := 30) (n := (0, 0)) (r := (some 270)) dX7_critical_30 fl_X7_38 (zk_at hR.1 rfl) rfl hR.2.2.2.2.2.2.2.2.2.2 ?_
    refine Ev.iload_n (pc := 33) (n := (0, 0)) (i := 1) dX7_critical_33 rfl rfl ?_
    refine Ev.ia (pc := 34) (n := (0, 0)) (x := (A2 t.toNat : Int)) dX7_critical_34 (zk_at hR.1 rfl) (by omega) (by omega) v1 ?_
    refine Ev.iconst (pc := 35) (n := (0, 0)) dX7_critical_35 ?_
    refine Ev.callV (pc := 36) (n := (0, 0)) (ob := 260) (as := [zi (A2 t.toNat : Int), zi 0]) (st := []) (s_ofF hR ⟨by omega, by omega⟩ ⟨by decide, by decide⟩) dX7_critical_36 ok_X7_of (lk_X7_49 rfl) ⟨(Nat.le_of_ble_eq_true rfl), (Nat.le_of_ble_eq_true rfl)⟩ (zk_at hR.1 rfl) ⟨by decide, rfl⟩ rfl (Nat.le_of_ble_eq_true rfl) (Nat.le_of_ble_eq_true rfl) ⟨(Nat.le_of_ble_eq_true rfl), (Nat.le_of_ble_eq_true rfl)⟩ ?_
    refine Ev.goto (pc := 39) (n := (0, 0)) (tgt := 43) dX7_critical_39 rfl ?_
    exact Ev.iret dX7_critical_43 rfl ⟨(Nat.le_of_ble_eq_true rfl), (Nat.le_of_ble_eq_true rfl)⟩
