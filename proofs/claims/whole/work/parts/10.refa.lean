theorem s_in (h : zH) (v lo hi : Int) : Ev M_X7_in 0 [(0, zi v), (1, zi lo), (2, zi hi)] [] h (0, 0) (.inl (some (zi (if lo ≤ v ∧ v ≤ hi then 1 else 0))), h) := by
  refine Ev.iload_n (i := 0) dX7_in_0 rfl rfl ?_
  refine Ev.iload_n (i := 1) dX7_in_1 rfl rfl ?_
  refine Ev.icmp_lt (tgt := 14) dX7_in_2 rfl (fun hc => ?_) (fun hc => ?_)
  · skip
    refine Ev.iconst dX7_in_14 ?_
    rw [if_neg (by omega)]
    exact Ev.bret dX7_in_15 rfl (by decide) ⟨(Nat.le_of_ble_eq_true rfl), (Nat.le_of_ble_eq_true rfl)⟩
  · skip
    refine Ev.iload_n (i := 0) dX7_in_5 rfl rfl ?_
    refine Ev.iload_n (i := 2) dX7_in_6 rfl rfl ?_
    refine Ev.icmp_gt (tgt := 14) dX7_in_7 rfl (fun hc2 => ?_) (fun hc2 => ?_)
    · skip
      refine Ev.iconst dX7_in_14 ?_
      rw [if_neg (by omega)]
      exact Ev.bret dX7_in_15 rfl (by decide) ⟨(Nat.le_of_ble_eq_true rfl), (Nat.le_of_ble_eq_true rfl)⟩
    · skip
      refine Ev.iconst dX7_in_10 ?_
      refine Ev.goto (tgt := 15) dX7_in_11 rfl ?_
      rw [if_pos (by omega)]
      exact Ev.bret dX7_in_15 rfl (by decide) ⟨(Nat.le_of_ble_eq_true rfl), (Nat.le_of_ble_eq_true rfl)⟩
theorem s_of {h : zH} (hR : zRM h) {k w : Int} (hk : 0 ≤ k ∧ k < 24) (hw : 0 ≤ w ∧ w < 7) : Ev M_X7_of 0 [(0, zr (some 260)), (1, zi k), (2, zi w)] [] h (0, 0) (.inl (some (zi (h.2.1 261 (3 + 7 * k + w)))), h) := by
  refine Ev.aload_n (i := 0) dX7_of_0 rfl rfl ?_
  refine Ev.gR (r := some 261) dX7_of_1 fl_X7_7 (zk_at hR.1 rfl) rfl hR.2.1 ?_
  refine Ev.iconst dX7_of_4 ?_
  refine Ev.bipush dX7_of_5 ?_
  refine Ev.iload_n (i := 1) dX7_of_7 rfl rfl ?_
  refine Ev.imul dX7_of_8 ⟨by omega, by omega⟩ ?_
  refine Ev.iadd dX7_of_9 ⟨by omega, by omega⟩ ?_
  refine Ev.iload_n (i := 2) dX7_of_10 rfl rfl ?_
  refine Ev.iadd dX7_of_11 ⟨by omega, by omega⟩ ?_
  refine Ev.ia (x := (h).2.1 261 ((3 + (7 * k)) + w)) dX7_of_12 (zk_at hR.1 rfl) (by omega) (by omega) rfl ?_
  exact Ev.iret dX7_of_13 rfl ⟨(Nat.le_of_ble_eq_true rfl), (Nat.le_of_ble_eq_true rfl)⟩
