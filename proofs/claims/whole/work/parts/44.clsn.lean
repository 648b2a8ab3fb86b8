/-! ===== the class: why a change is refused, and carrying it out ===== -/
theorem s_isBetween (h : zH) (v lo hi : Int) : Ev M_X6_isBetween 0 [(0, zi v), (1, zi lo), (2, zi hi)] [] h (0, 0) (.inl (some (zi (if lo ≤ v ∧ v ≤ hi then 1 else 0))), h) := by
  refine Ev.iload_n (pc := 0) (n := (0, 0)) (i := 0) dX6_isBetween_0 rfl rfl ?_
  refine Ev.iload_n (pc := 1) (n := (0, 0)) (i := 1) dX6_isBetween_1 rfl rfl ?_
  refine Ev.icmp_lt (pc := 2) (n := (0, 0)) (tgt := 14) dX6_isBetween_2 rfl (fun h1 => ?_) (fun h1 => ?_)
  · skip
    rw [if_neg (fun g => by omega)]
    refine Ev.iconst (pc := 14) (n := (0, 0)) dX6_isBetween_14 ?_
    exact Ev.bret dX6_isBetween_15 rfl (by decide) ⟨(Nat.le_of_ble_eq_true rfl), (Nat.le_of_ble_eq_true rfl)⟩
  · skip
    refine Ev.iload_n (pc := 5) (n := (0, 0)) (i := 0) dX6_isBetween_5 rfl rfl ?_
    refine Ev.iload_n (pc := 6) (n := (0, 0)) (i := 2) dX6_isBetween_6 rfl rfl ?_
    refine Ev.icmp_gt (pc := 7) (n := (0, 0)) (tgt := 14) dX6_isBetween_7 rfl (fun h2 => ?_) (fun h2 => ?_)
    · skip
      rw [if_neg (fun g => by omega)]
      refine Ev.iconst (pc := 14) (n := (0, 0)) dX6_isBetween_14 ?_
      exact Ev.bret dX6_isBetween_15 rfl (by decide) ⟨(Nat.le_of_ble_eq_true rfl), (Nat.le_of_ble_eq_true rfl)⟩
    · skip
      rw [if_pos ⟨by omega, by omega⟩]
      refine Ev.iconst (pc := 10) (n := (0, 0)) dX6_isBetween_10 ?_
      refine Ev.goto (pc := 11) (n := (0, 0)) (tgt := 15) dX6_isBetween_11 rfl ?_
      exact Ev.bret dX6_isBetween_15 rfl (by decide) ⟨(Nat.le_of_ble_eq_true rfl), (Nat.le_of_ble_eq_true rfl)⟩
theorem s_areInRange0 (h : zH) (b c : Int) : Ev M_X5_areInRange 0 [(0, zr (some (4096 + 0))), (1, zi b), (2, zi c)] [] h (0, 0) (.inl (some (zi (if 0 ≤ b ∧ b ≤ 3 then 1 else 0))), h) := by
  refine Ev.gsW (pc := 0) (n := (0, 0)) dX5_areInRange_0 (zgw_in (List.mem_of_getElem? (i := 436) (by decide +kernel)) rfl) ?_
  refine Ev.aload_n (pc := 3) (n := (0, 0)) (i := 0) dX5_areInRange_3 rfl rfl ?_
  refine Ev.callO (pc := 4) (n := (0, 0)) (i := 0) (s_ord (by decide)) dX5_areInRange_4 (by decide) (zgw_in (List.mem_of_getElem? (i := 438) (by decide +kernel)) rfl) ⟨(Nat.le_of_ble_eq_true rfl), (Nat.le_of_ble_eq_true rfl)⟩ (Nat.le_of_ble_eq_true rfl) ⟨(Nat.le_of_ble_eq_true rfl), (Nat.le_of_ble_eq_true rfl)⟩ ?_
  refine Ev.iaW (pc := 7) (n := (0, 0)) (x := 1) dX5_areInRange_7 (by decide) (by decide) rfl ?_
  refine Ev.tableIn (pc := 8) (n := (0, 0)) (off := 40) (tgt := 48) dX5_areInRange_8 (by omega) (by omega) (by rfl) rfl ?_
  refine Ev.iload_n (pc := 48) (n := (0, 0)) (i := 1) dX5_areInRange_48 rfl rfl ?_
  refine Ev.iconst (pc := 49) (n := (0, 0)) dX5_areInRange_49 ?_
  refine Ev.iconst (pc := 50) (n := (0, 0)) dX5_areInRange_50 ?_
  refine Ev.callSN (pc := 51) (n := (0, 0)) (as := [zi b, zi 0, zi 3]) (st := []) (s_isBetween h b 0 3) dX5_areInRange_51 ok_X6_isBetween (lk_X5_113 rfl) ⟨(Nat.le_of_ble_eq_true rfl), (Nat.le_of_ble_eq_true rfl)⟩ rfl (Nat.le_of_ble_eq_true rfl) (Nat.le_of_ble_eq_true rfl) ⟨(Nat.le_of_ble_eq_true rfl), (Nat.le_of_ble_eq_true rfl)⟩ ?_
  exact Ev.bret dX5_areInRange_54 rfl (by split <;> decide) ⟨(Nat.le_of_ble_eq_true rfl), (Nat.le_of_ble_eq_true rfl)⟩
theorem s_areInRange1 (h : zH) (b c : Int) : Ev M_X5_areInRange 0 [(0, zr (some (4096 + 1))), (1, zi b), (2, zi c)] [] h (0, 0) (.inl (some (zi (if (0 ≤ b ∧ b ≤ 3) ∧ (0 ≤ c ∧ c ≤ 60) then 1 else 0))), h) := by
  refine Ev.gsW (pc := 0) (n := (0, 0)) dX5_areInRange_0 (zgw_in (List.mem_of_getElem? (i := 436) (by decide +kernel)) rfl) ?_
  refine Ev.aload_n (pc := 3) (n := (0, 0)) (i := 0) dX5_areInRange_3 rfl rfl ?_
  refine Ev.callO (pc := 4) (n := (0, 0)) (i := 1) (s_ord (by decide)) dX5_areInRange_4 (by decide) (zgw_in (List.mem_of_getElem? (i := 438) (by decide +kernel)) rfl) ⟨(Nat.le_of_ble_eq_true rfl), (Nat.le_of_ble_eq_true rfl)⟩ (Nat.le_of_ble_eq_true rfl) ⟨(Nat.le_of_ble_eq_true rfl), (Nat.le_of_ble_eq_true rfl)⟩ ?_
  refine Ev.iaW (pc := 7) (n := (0, 0)) (x := 2) dX5_areInRange_7 (by decide) (by decide) rfl ?_
  refine Ev.tableIn (pc := 8) (n := (0, 0)) (off := 47) (tgt := 55) dX5_areInRange_8 (by omega) (by omega) (by rfl) rfl ?_
  refine Ev.iload_n (pc := 55) (n := (0, 0)) (i := 1) dX5_areInRange_55 rfl rfl ?_
  refine Ev.iconst (pc := 56) (n := (0, 0)) dX5_areInRange_56 ?_
  refine Ev.iconst (pc := 57) (n := (0, 0)) dX5_areInRange_57 ?_
  refine Ev.callSN (pc := 58) (n := (0, 0)) (as := [zi b, zi 0, zi 3]) (st := []) (s_isBetween h b 0 3) dX5_areInRange_58 ok_X6_isBetween (lk_X5_113 rfl) ⟨(Nat.le_of_ble_eq_true rfl), (Nat.le_of_ble_eq_true rfl)⟩ rfl (Nat.le_of_ble_eq_true rfl) (Nat.le_of_ble_eq_true rfl) ⟨(Nat.le_of_ble_eq_true rfl), (Nat.le_of_ble_eq_true rfl)⟩ ?_
  by_cases h1 : 0 ≤ b ∧ b ≤ 3
  · skip
    rw [if_pos h1]
    refine Ev.if_eq (pc := 61) (n := (0, 0)) (tgt := 78) dX5_areInRange_61 rfl (fun hc => absurd hc (by decide)) (fun hc => ?_)
    refine Ev.iload_n (pc := 64) (n := (0, 0)) (i := 2) dX5_areInRange_64 rfl rfl ?_
    refine Ev.iconst (pc := 65) (n := (0, 0)) dX5_areInRange_65 ?_
    refine Ev.bipush (pc := 66) (n := (0, 0)) dX5_areInRange_66 ?_
    refine Ev.callSN (pc := 68) (n := (0, 0)) (as := [zi c, zi 0, zi 60]) (st := []) (s_isBetween h c 0 60) dX5_areInRange_68 ok_X6_isBetween (lk_X5_113 rfl) ⟨(Nat.le_of_ble_eq_true rfl), (Nat.le_of_ble_eq_true rfl)⟩ rfl (Nat.le_of_ble_eq_true rfl) (Nat.le_of_ble_eq_true rfl) ⟨(Nat.le_of_ble_eq_true rfl), (Nat.le_of_ble_eq_true rfl)⟩ ?_
    by_cases h2 : 0 ≤ c ∧ c ≤ 60
    · skip
      rw [if_pos h2, if_pos ⟨h1, h2⟩]
      refine Ev.if_eq (pc := 71) (n := (0, 0)) (tgt := 78) dX5_areInRange_71 rfl (fun hc => absurd hc (by decide)) (fun hc => ?_)
      refine Ev.iconst (pc := 74) (n := (0, 0)) dX5_areInRange_74 ?_
      refine Ev.goto (pc := 75) (n := (0, 0)) (tgt := 79) dX5_areInRange_75 rfl ?_
      exact Ev.bret dX5_areInRange_79 rfl (by decide) ⟨(Nat.le_of_ble_eq_true rfl), (Nat.le_of_ble_eq_true rfl)⟩
    · skip
      rw [if_neg h2, if_neg (fun g => h2 g.2)]
      refine Ev.if_eq (pc := 71) (n := (0, 0)) (tgt := 78) dX5_areInRange_71 rfl (fun hc => ?_) (fun hc => absurd rfl hc)
      refine Ev.iconst (pc := 78) (n := (0, 0)) dX5_areInRange_78 ?_
      exact Ev.bret dX5_areInRange_79 rfl (by decide) ⟨(Nat.le_of_ble_eq_true rfl), (Nat.le_of_ble_eq_true rfl)⟩
  · skip
    rw [if_neg h1, if_neg (fun g => h1 g.1)]
    refine Ev.if_eq (pc := 61) (n := (0, 0)) (tgt := 78) dX5_areInRange_61 rfl (fun hc => ?_) (fun hc => absurd rfl hc)
    refine Ev.iconst (pc := 78) (n := (0, 0)) dX5_areInRange_78 ?_
    exact Ev.bret dX5_areInRange_79 rfl (by decide) ⟨(Nat.le_of_ble_eq_true rfl), (Nat.le_of_ble_eq_true rfl)⟩
theorem s_areInRange2 (h : zH) (b c : Int) : Ev M_X5_areInRange 0 [(0, zr (some (4096 + 2))), (1, zi b), (2, zi c)] [] h (0, 0) (.inl (some (zi (if 0 ≤ b ∧ b ≤ 60 then 1 else 0))), h) := by
  refine Ev.gsW (pc := 0) (n := (0, 0)) dX5_areInRange_0 (zgw_in (List.mem_of_getElem? (i := 436) (by decide +kernel)) rfl) ?_
  refine Ev.aload_n (pc := 3) (n := (0, 0)) (i := 0) dX5_areInRange_3 rfl rfl ?_
  refine Ev.callO (pc := 4) (n := (0, 0)) (i := 2) (s_ord (by decide)) dX5_areInRange_4 (by decide) (zgw_in (List.mem_of_getElem? (i := 438) (by decide +kernel)) rfl) ⟨(Nat.le_of_ble_eq_true rfl), (Nat.le_of_ble_eq_true rfl)⟩ (Nat.le_of_ble_eq_true rfl) ⟨(Nat.le_of_ble_eq_true rfl), (Nat.le_of_ble_eq_true rfl)⟩ ?_
  refine Ev.iaW (pc := 7) (n := (0, 0)) (x := 4) dX5_areInRange_7 (by decide) (by decide) rfl ?_
  refine Ev.tableIn (pc := 8) (n := (0, 0)) (off := 79) (tgt := 87) dX5_areInRange_8 (by omega) (by omega) (by rfl) rfl ?_
  refine Ev.iload_n (pc := 87) (n := (0, 0)) (i := 1) dX5_areInRange_87 rfl rfl ?_
  refine Ev.iconst (pc := 88) (n := (0, 0)) dX5_areInRange_88 ?_
  refine Ev.bipush (pc := 89) (n := (0, 0)) dX5_areInRange_89 ?_
  refine Ev.callSN (pc := 91) (n := (0, 0)) (as := [zi b, zi 0, zi 60]) (st := []) (s_isBetween h b 0 60) dX5_areInRange_91 ok_X6_isBetween (lk_X5_113 rfl) ⟨(Nat.le_of_ble_eq_true rfl), (Nat.le_of_ble_eq_true rfl)⟩ rfl (Nat.le_of_ble_eq_true rfl) (Nat.le_of_ble_eq_true rfl) ⟨(Nat.le_of_ble_eq_true rfl), (Nat.le_of_ble_eq_true rfl)⟩ ?_
  exact Ev.bret dX5_areInRange_94 rfl (by split <;> decide) ⟨(Nat.le_of_ble_eq_true rfl), (Nat.le_of_ble_eq_true rfl)⟩
theorem s_areInRange3 (h : zH) (b c : Int) : Ev M_X5_areInRange 0 [(0, zr (some (4096 + 3))), (1, zi b), (2, zi c)] [] h (0, 0) (.inl (some (zi (if 1 ≤ b ∧ b ≤ 99 then 1 else 0))), h) := by
  refine Ev.gsW (pc := 0) (n := (0, 0)) dX5_areInRange_0 (zgw_in (List.mem_of_getElem? (i := 436) (by decide +kernel)) rfl) ?_
  refine Ev.aload_n (pc := 3) (n := (0, 0)) (i := 0) dX5_areInRange_3 rfl rfl ?_
  refine Ev.callO (pc := 4) (n := (0, 0)) (i := 3) (s_ord (by decide)) dX5_areInRange_4 (by decide) (zgw_in (List.mem_of_getElem? (i := 438) (by decide +kernel)) rfl) ⟨(Nat.le_of_ble_eq_true rfl), (Nat.le_of_ble_eq_true rfl)⟩ (Nat.le_of_ble_eq_true rfl) ⟨(Nat.le_of_ble_eq_true rfl), (Nat.le_of_ble_eq_true rfl)⟩ ?_
  refine Ev.iaW (pc := 7) (n := (0, 0)) (x := 5) dX5_areInRange_7 (by decide) (by decide) rfl ?_
  refine Ev.tableIn (pc := 8) (n := (0, 0)) (off := 87) (tgt := 95) dX5_areInRange_8 (by omega) (by omega) (by rfl) rfl ?_
  refine Ev.iload_n (pc := 95) (n := (0, 0)) (i := 1) dX5_areInRange_95 rfl rfl ?_
  refine Ev.iconst (pc := 96) (n := (0, 0)) dX5_areInRange_96 ?_
  refine Ev.bipush (pc := 97) (n := (0, 0)) dX5_areInRange_97 ?_
  refine Ev.callSN (pc := 99) (n := (0, 0)) (as := [zi b, zi 1, zi 99]) (st := []) (s_isBetween h b 1 99) dX5_areInRange_99 ok_X6_isBetween (lk_X5_113 rfl) ⟨(Nat.le_of_ble_eq_true rfl), (Nat.le_of_ble_eq_true rfl)⟩ rfl (Nat.le_of_ble_eq_true rfl) (Nat.le_of_ble_eq_true rfl) ⟨(Nat.le_of_ble_eq_true rfl), (Nat.le_of_ble_eq_true rfl)⟩ ?_
  exact Ev.bret dX5_areInRange_102 rfl (by split <;> decide) ⟨(Nat.le_of_ble_eq_true rfl), (Nat.le_of_ble_eq_true rfl)⟩
theorem s_areInRange4 (h : zH) (b c : Int) : Ev M_X5_areInRange 0 [(0, zr (some (4096 + 4))), (1, zi b), (2, zi c)] [] h (0, 0) (.inl (some (zi (if 1 ≤ b ∧ b ≤ 99 then 1 else 0))), h) := by
  refine Ev.gsW (pc := 0) (n := (0, 0)) dX5_areInRange_0 (zgw_in (List.mem_of_getElem? (i := 436) (by decide +kernel)) rfl) ?_
  refine Ev.aload_n (pc := 3) (n := (0, 0)) (i := 0) dX5_areInRange_3 rfl rfl ?_
  refine Ev.callO (pc := 4) (n := (0, 0)) (i := 4) (s_ord (by decide)) dX5_areInRange_4 (by decide) (zgw_in (List.mem_of_getElem? (i := 438) (by decide +kernel)) rfl) ⟨(Nat.le_of_ble_eq_true rfl), (Nat.le_of_ble_eq_true rfl)⟩ (Nat.le_of_ble_eq_true rfl) ⟨(Nat.le_of_ble_eq_true rfl), (Nat.le_of_ble_eq_true rfl)⟩ ?_
  refine Ev.iaW (pc := 7) (n := (0, 0)) (x := 6) dX5_areInRange_7 (by decide) (by decide) rfl ?_
  refine Ev.tableIn (pc := 8) (n := (0, 0)) (off := 87) (tgt := 95) dX5_areInRange_8 (by omega) (by omega) (by rfl) rfl ?_
  refine Ev.iload_n (pc := 95) (n := (0, 0)) (i := 1) dX5_areInRange_95 rfl rfl ?_
  refine Ev.iconst (pc := 96) (n := (0, 0)) dX5_areInRange_96 ?_
  refine Ev.bipush (pc := 97) (n := (0, 0)) dX5_areInRange_97 ?_
  refine Ev.callSN (pc := 99) (n := (0, 0)) (as := [zi b, zi 1, zi 99]) (st := []) (s_isBetween h b 1 99) dX5_areInRange_99 ok_X6_isBetween (lk_X5_113 rfl) ⟨(Nat.le_of_ble_eq_true rfl), (Nat.le_of_ble_eq_true rfl)⟩ rfl (Nat.le_of_ble_eq_true rfl) (Nat.le_of_ble_eq_true rfl) ⟨(Nat.le_of_ble_eq_true rfl), (Nat.le_of_ble_eq_true rfl)⟩ ?_
  exact Ev.bret dX5_areInRange_102 rfl (by split <;> decide) ⟨(Nat.le_of_ble_eq_true rfl), (Nat.le_of_ble_eq_true rfl)⟩
theorem s_areInRange5 (h : zH) (b c : Int) : Ev M_X5_areInRange 0 [(0, zr (some (4096 + 5))), (1, zi b), (2, zi c)] [] h (0, 0) (.inl (some (zi (if 0 ≤ c ∧ c ≤ 3 then 1 else 0))), h) := by
  refine Ev.gsW (pc := 0) (n := (0, 0)) dX5_areInRange_0 (zgw_in (List.mem_of_getElem? (i := 436) (by decide +kernel)) rfl) ?_
  refine Ev.aload_n (pc := 3) (n := (0, 0)) (i := 0) dX5_areInRange_3 rfl rfl ?_
  refine Ev.callO (pc := 4) (n := (0, 0)) (i := 5) (s_ord (by decide)) dX5_areInRange_4 (by decide) (zgw_in (List.mem_of_getElem? (i := 438) (by decide +kernel)) rfl) ⟨(Nat.le_of_ble_eq_true rfl), (Nat.le_of_ble_eq_true rfl)⟩ (Nat.le_of_ble_eq_true rfl) ⟨(Nat.le_of_ble_eq_true rfl), (Nat.le_of_ble_eq_true rfl)⟩ ?_
  refine Ev.iaW (pc := 7) (n := (0, 0)) (x := 3) dX5_areInRange_7 (by decide) (by decide) rfl ?_
  refine Ev.tableIn (pc := 8) (n := (0, 0)) (off := 72) (tgt := 80) dX5_areInRange_8 (by omega) (by omega) (by rfl) rfl ?_
  refine Ev.iload_n (pc := 80) (n := (0, 0)) (i := 2) dX5_areInRange_80 rfl rfl ?_
  refine Ev.iconst (pc := 81) (n := (0, 0)) dX5_areInRange_81 ?_
  refine Ev.iconst (pc := 82) (n := (0, 0)) dX5_areInRange_82 ?_
  refine Ev.callSN (pc := 83) (n := (0, 0)) (as := [zi c, zi 0, zi 3]) (st := []) (s_isBetween h c 0 3) dX5_areInRange_83 ok_X6_isBetween (lk_X5_113 rfl) ⟨(Nat.le_of_ble_eq_true rfl), (Nat.le_of_ble_eq_true rfl)⟩ rfl (Nat.le_of_ble_eq_true rfl) (Nat.le_of_ble_eq_true rfl) ⟨(Nat.le_of_ble_eq_true rfl), (Nat.le_of_ble_eq_true rfl)⟩ ?_
  exact Ev.bret dX5_areInRange_86 rfl (by split <;> decide) ⟨(Nat.le_of_ble_eq_true rfl), (Nat.le_of_ble_eq_true rfl)⟩
theorem s_areInRange6 (h : zH) (b c : Int) : Ev M_X5_areInRange 0 [(0, zr (some (4096 + 6))), (1, zi b), (2, zi c)] [] h (0, 0) (.inl (some (zi (if True then 1 else 0))), h) := by
  refine Ev.gsW (pc := 0) (n := (0, 0)) dX5_areInRange_0 (zgw_in (List.mem_of_getElem? (i := 436) (by decide +kernel)) rfl) ?_
  refine Ev.aload_n (pc := 3) (n := (0, 0)) (i := 0) dX5_areInRange_3 rfl rfl ?_
  refine Ev.callO (pc := 4) (n := (0, 0)) (i := 6) (s_ord (by decide)) dX5_areInRange_4 (by decide) (zgw_in (List.mem_of_getElem? (i := 438) (by decide +kernel)) rfl) ⟨(Nat.le_of_ble_eq_true rfl), (Nat.le_of_ble_eq_true rfl)⟩ (Nat.le_of_ble_eq_true rfl) ⟨(Nat.le_of_ble_eq_true rfl), (Nat.le_of_ble_eq_true rfl)⟩ ?_
  refine Ev.iaW (pc := 7) (n := (0, 0)) (x := 7) dX5_areInRange_7 (by decide) (by decide) rfl ?_
  refine Ev.tableOut (pc := 8) (n := (0, 0)) (tgt := 103) dX5_areInRange_8 (by omega) rfl ?_
  refine Ev.iconst (pc := 103) (n := (0, 0)) dX5_areInRange_103 ?_
  rw [if_pos trivial]
  exact Ev.bret dX5_areInRange_104 rfl (by decide) ⟨(Nat.le_of_ble_eq_true rfl), (Nat.le_of_ble_eq_true rfl)⟩
theorem s_areInRange7 (h : zH) (b c : Int) : Ev M_X5_areInRange 0 [(0, zr (some (4096 + 7))), (1, zi b), (2, zi c)] [] h (0, 0) (.inl (some (zi (if True then 1 else 0))), h) := by
  refine Ev.gsW (pc := 0) (n := (0, 0)) dX5_areInRange_0 (zgw_in (List.mem_of_getElem? (i := 436) (by decide +kernel)) rfl) ?_
  refine Ev.aload_n (pc := 3) (n := (0, 0)) (i := 0) dX5_areInRange_3 rfl rfl ?_
  refine Ev.callO (pc := 4) (n := (0, 0)) (i := 7) (s_ord (by decide)) dX5_areInRange_4 (by decide) (zgw_in (List.mem_of_getElem? (i := 438) (by decide +kernel)) rfl) ⟨(Nat.le_of_ble_eq_true rfl), (Nat.le_of_ble_eq_true rfl)⟩ (Nat.le_of_ble_eq_true rfl) ⟨(Nat.le_of_ble_eq_true rfl), (Nat.le_of_ble_eq_true rfl)⟩ ?_
  refine Ev.iaW (pc := 7) (n := (0, 0)) (x := 0) dX5_areInRange_7 (by decide) (by decide) rfl ?_
  refine Ev.tableOut (pc := 8) (n := (0, 0)) (tgt := 103) dX5_areInRange_8 (by omega) rfl ?_
  refine Ev.iconst (pc := 103) (n := (0, 0)) dX5_areInRange_103 ?_
  rw [if_pos trivial]
  exact Ev.bret dX5_areInRange_104 rfl (by decide) ⟨(Nat.le_of_ble_eq_true rfl), (Nat.le_of_ble_eq_true rfl)⟩
theorem s_isPossible0 {h : zH} {T n : Nat} {F : zF} {ad dl : Int} {ar q : Nat → Nat} (hC : CT h T n F ad dl ar q) {dep : Nat → Nat} {B : Int} (hw : WF n F dep B) (hB : 24 * (60 + B) ≤ 1000000000) {len st sl dp : Int → Int} (hl : IsLen n F len) (ht : IsTm n F len st sl dp) (hP : PLN h n F len st sl dp ar q) {j : Nat} (hj : j < n) {b : Int} : Ev M_X5_isPossible 0 [(0, zr (some T)), (1, zr (some (4096 + 0))), (2, zr (some (ar j))), (3, zi b)] [] h (0, 0) (.inl (some (zi (if F (q j) 1 ≠ 1 ∧ n < 24 then 1 else 0))), h) := by
  have b0 := (hw.2.2.2.1 (q j) (hC.qlt hj)).1
  have hn := hC.n24
  refine Ev.gsW (pc := 0) (n := (0, 0)) dX5_isPossible_0 (zgw_in (List.mem_of_getElem? (i := 436) (by decide +kernel)) rfl) ?_
  refine Ev.aload_n (pc := 3) (n := (0, 0)) (i := 1) dX5_isPossible_3 rfl rfl ?_
  refine Ev.callO (pc := 4) (n := (0, 0)) (i := 0) (s_ord (by decide)) dX5_isPossible_4 (by decide) (zgw_in (List.mem_of_getElem? (i := 438) (by decide +kernel)) rfl) ⟨(Nat.le_of_ble_eq_true rfl), (Nat.le_of_ble_eq_true rfl)⟩ (Nat.le_of_ble_eq_true rfl) ⟨(Nat.le_of_ble_eq_true rfl), (Nat.le_of_ble_eq_true rfl)⟩ ?_
  refine Ev.iaW (pc := 7) (n := (0, 0)) (x := 1) dX5_isPossible_7 (by decide) (by decide) rfl ?_
  refine Ev.tableIn (pc := 8) (n := (0, 0)) (off := 44) (tgt := 52) dX5_isPossible_8 (by omega) (by omega) (by rfl) rfl ?_
  refine Ev.aload_n (pc := 52) (n := (0, 0)) (i := 2) dX5_isPossible_52 rfl rfl ?_
  refine Ev.gI (pc := 53) (n := (0, 0)) (x := (F (q j) 1)) dX5_isPossible_53 fl_X5_68 (hC.nd hj).1 rfl (hC.c1 hj) ?_
  refine Ev.if_ne (pc := 56) (n := (0, 0)) (tgt := 72) dX5_isPossible_56 rfl (fun h1 => ?_) (fun h1 => ?_)
  · skip
    rw [if_neg (fun g => by omega)]
    refine Ev.iconst (pc := 72) (n := (0, 0)) dX5_isPossible_72 ?_
    exact Ev.bret dX5_isPossible_73 rfl (by decide) ⟨(Nat.le_of_ble_eq_true rfl), (Nat.le_of_ble_eq_true rfl)⟩
  · skip
    refine Ev.aload_n (pc := 59) (n := (0, 0)) (i := 0) dX5_isPossible_59 rfl rfl ?_
    refine Ev.gI (pc := 60) (n := (0, 0)) (x := (n : Int)) dX5_isPossible_60 fl_X5_20 hC.1.1.1 rfl hC.1.2.2.1 ?_
    refine Ev.bipush (pc := 63) (n := (0, 0)) dX5_isPossible_63 ?_
    refine Ev.icmp_ge (pc := 65) (n := (0, 0)) (tgt := 72) dX5_isPossible_65 rfl (fun h2 => ?_) (fun h2 => ?_)
    · skip
      rw [if_neg (fun g => by omega)]
      refine Ev.iconst (pc := 72) (n := (0, 0)) dX5_isPossible_72 ?_
      exact Ev.bret dX5_isPossible_73 rfl (by decide) ⟨(Nat.le_of_ble_eq_true rfl), (Nat.le_of_ble_eq_true rfl)⟩
    · skip
      rw [if_pos ⟨by omega, by omega⟩]
      refine Ev.iconst (pc := 68) (n := (0, 0)) dX5_isPossible_68 ?_
      refine Ev.goto (pc := 69) (n := (0, 0)) (tgt := 73) dX5_isPossible_69 rfl ?_
      exact Ev.bret dX5_isPossible_73 rfl (by decide) ⟨(Nat.le_of_ble_eq_true rfl), (Nat.le_of_ble_eq_true rfl)⟩
theorem s_isPossible1 {h : zH} {T n : Nat} {F : zF} {ad dl : Int} {ar q : Nat → Nat} (hC : CT h T n F ad dl ar q) {dep : Nat → Nat} {B : Int} (hw : WF n F dep B) (hB : 24 * (60 + B) ≤ 1000000000) {len st sl dp : Int → Int} (hl : IsLen n F len) (ht : IsTm n F len st sl dp) (hP : PLN h n F len st sl dp ar q) {j : Nat} (hj : j < n) {b : Int} : Ev M_X5_isPossible 0 [(0, zr (some T)), (1, zr (some (4096 + 1))), (2, zr (some (ar j))), (3, zi b)] [] h (0, 0) (.inl (some (zi (if F (q j) 1 ≠ 1 ∧ n < 24 then 1 else 0))), h) := by
  have b0 := (hw.2.2.2.1 (q j) (hC.qlt hj)).1
  have hn := hC.n24
  refine Ev.gsW (pc := 0) (n := (0, 0)) dX5_isPossible_0 (zgw_in (List.mem_of_getElem? (i := 436) (by decide +kernel)) rfl) ?_
  refine Ev.aload_n (pc := 3) (n := (0, 0)) (i := 1) dX5_isPossible_3 rfl rfl ?_
  refine Ev.callO (pc := 4) (n := (0, 0)) (i := 1) (s_ord (by decide)) dX5_isPossible_4 (by decide) (zgw_in (List.mem_of_getElem? (i := 438) (by decide +kernel)) rfl) ⟨(Nat.le_of_ble_eq_true rfl), (Nat.le_of_ble_eq_true rfl)⟩ (Nat.le_of_ble_eq_true rfl) ⟨(Nat.le_of_ble_eq_true rfl), (Nat.le_of_ble_eq_true rfl)⟩ ?_
  refine Ev.iaW (pc := 7) (n := (0, 0)) (x := 2) dX5_isPossible_7 (by decide) (by decide) rfl ?_
  refine Ev.tableIn (pc := 8) (n := (0, 0)) (off := 44) (tgt := 52) dX5_isPossible_8 (by omega) (by omega) (by rfl) rfl ?_
  refine Ev.aload_n (pc := 52) (n := (0, 0)) (i := 2) dX5_isPossible_52 rfl rfl ?_
  refine Ev.gI (pc := 53) (n := (0, 0)) (x := (F (q j) 1)) dX5_isPossible_53 fl_X5_68 (hC.nd hj).1 rfl (hC.c1 hj) ?_
  refine Ev.if_ne (pc := 56) (n := (0, 0)) (tgt := 72) dX5_isPossible_56 rfl (fun h1 => ?_) (fun h1 => ?_)
  · skip
    rw [if_neg (fun g => by omega)]
    refine Ev.iconst (pc := 72) (n := (0, 0)) dX5_isPossible_72 ?_
    exact Ev.bret dX5_isPossible_73 rfl (by decide) ⟨(Nat.le_of_ble_eq_true rfl), (Nat.le_of_ble_eq_true rfl)⟩
  · skip
    refine Ev.aload_n (pc := 59) (n := (0, 0)) (i := 0) dX5_isPossible_59 rfl rfl ?_
    refine Ev.gI (pc := 60) (n := (0, 0)) (x := (n : Int)) dX5_isPossible_60 fl_X5_20 hC.1.1.1 rfl hC.1.2.2.1 ?_
    refine Ev.bipush (pc := 63) (n := (0, 0)) dX5_isPossible_63 ?_
    refine Ev.icmp_ge (pc := 65) (n := (0, 0)) (tgt := 72) dX5_isPossible_65 rfl (fun h2 => ?_) (fun h2 => ?_)
    · skip
      rw [if_neg (fun g => by omega)]
      refine Ev.iconst (pc := 72) (n := (0, 0)) dX5_isPossible_72 ?_
      exact Ev.bret dX5_isPossible_73 rfl (by decide) ⟨(Nat.le_of_ble_eq_true rfl), (Nat.le_of_ble_eq_true rfl)⟩
    · skip
      rw [if_pos ⟨by omega, by omega⟩]
      refine Ev.iconst (pc := 68) (n := (0, 0)) dX5_isPossible_68 ?_
      refine Ev.goto (pc := 69) (n := (0, 0)) (tgt := 73) dX5_isPossible_69 rfl ?_
      exact Ev.bret dX5_isPossible_73 rfl (by decide) ⟨(Nat.le_of_ble_eq_true rfl), (Nat.le_of_ble_eq_true rfl)⟩
theorem s_isPossible2 {h : zH} {T n : Nat} {F : zF} {ad dl : Int} {ar q : Nat → Nat} (hC : CT h T n F ad dl ar q) {dep : Nat → Nat} {B : Int} (hw : WF n F dep B) (hB : 24 * (60 + B) ≤ 1000000000) {len st sl dp : Int → Int} (hl : IsLen n F len) (ht : IsTm n F len st sl dp) (hP : PLN h n F len st sl dp ar q) {j : Nat} (hj : j < n) {b : Int} : Ev M_X5_isPossible 0 [(0, zr (some T)), (1, zr (some (4096 + 2))), (2, zr (some (ar j))), (3, zi b)] [] h (0, 0) (.inl (some (zi (if F (q j) 1 = 1 then 1 else 0))), h) := by
  have b0 := (hw.2.2.2.1 (q j) (hC.qlt hj)).1
  have hn := hC.n24
  refine Ev.gsW (pc := 0) (n := (0, 0)) dX5_isPossible_0 (zgw_in (List.mem_of_getElem? (i := 436) (by decide +kernel)) rfl) ?_
  refine Ev.aload_n (pc := 3) (n := (0, 0)) (i := 1) dX5_isPossible_3 rfl rfl ?_
  refine Ev.callO (pc := 4) (n := (0, 0)) (i := 2) (s_ord (by decide)) dX5_isPossible_4 (by decide) (zgw_in (List.mem_of_getElem? (i := 438) (by decide +kernel)) rfl) ⟨(Nat.le_of_ble_eq_true rfl), (Nat.le_of_ble_eq_true rfl)⟩ (Nat.le_of_ble_eq_true rfl) ⟨(Nat.le_of_ble_eq_true rfl), (Nat.le_of_ble_eq_true rfl)⟩ ?_
  refine Ev.iaW (pc := 7) (n := (0, 0)) (x := 4) dX5_isPossible_7 (by decide) (by decide) rfl ?_
  refine Ev.tableIn (pc := 8) (n := (0, 0)) (off := 131) (tgt := 139) dX5_isPossible_8 (by omega) (by omega) (by rfl) rfl ?_
  refine Ev.aload_n (pc := 139) (n := (0, 0)) (i := 2) dX5_isPossible_139 rfl rfl ?_
  refine Ev.gI (pc := 140) (n := (0, 0)) (x := (F (q j) 1)) dX5_isPossible_140 fl_X5_68 (hC.nd hj).1 rfl (hC.c1 hj) ?_
  have e9 : (if F (q j) 1 = 1 then (1 : Int) else 0) = F (q j) 1 := by
    split <;> omega
  rw [e9]
  exact Ev.bret dX5_isPossible_143 rfl (b0) ⟨(Nat.le_of_ble_eq_true rfl), (Nat.le_of_ble_eq_true rfl)⟩
theorem s_isPossible3 {h : zH} {T n : Nat} {F : zF} {ad dl : Int} {ar q : Nat → Nat} (hC : CT h T n F ad dl ar q) {dep : Nat → Nat} {B : Int} (hw : WF n F dep B) (hB : 24 * (60 + B) ≤ 1000000000) {len st sl dp : Int → Int} (hl : IsLen n F len) (ht : IsTm n F len st sl dp) (hP : PLN h n F len st sl dp ar q) {j : Nat} (hj : j < n) {b : Int} : Ev M_X5_isPossible 0 [(0, zr (some T)), (1, zr (some (4096 + 3))), (2, zr (some (ar j))), (3, zi b)] [] h (0, 0) (.inl (some (zi (if F (q j) 1 = 1 ∧ b ≤ sl (q j) then 1 else 0))), h) := by
  have b0 := (hw.2.2.2.1 (q j) (hC.qlt hj)).1
  have hn := hC.n24
  refine Ev.gsW (pc := 0) (n := (0, 0)) dX5_isPossible_0 (zgw_in (List.mem_of_getElem? (i := 436) (by decide +kernel)) rfl) ?_
  refine Ev.aload_n (pc := 3) (n := (0, 0)) (i := 1) dX5_isPossible_3 rfl rfl ?_
  refine Ev.callO (pc := 4) (n := (0, 0)) (i := 3) (s_ord (by decide)) dX5_isPossible_4 (by decide) (zgw_in (List.mem_of_getElem? (i := 438) (by decide +kernel)) rfl) ⟨(Nat.le_of_ble_eq_true rfl), (Nat.le_of_ble_eq_true rfl)⟩ (Nat.le_of_ble_eq_true rfl) ⟨(Nat.le_of_ble_eq_true rfl), (Nat.le_of_ble_eq_true rfl)⟩ ?_
  refine Ev.iaW (pc := 7) (n := (0, 0)) (x := 5) dX5_isPossible_7 (by decide) (by decide) rfl ?_
  refine Ev.tableIn (pc := 8) (n := (0, 0)) (off := 89) (tgt := 97) dX5_isPossible_8 (by omega) (by omega) (by rfl) rfl ?_
  refine Ev.aload_n (pc := 97) (n := (0, 0)) (i := 2) dX5_isPossible_97 rfl rfl ?_
  refine Ev.gI (pc := 98) (n := (0, 0)) (x := (F (q j) 1)) dX5_isPossible_98 fl_X5_68 (hC.nd hj).1 rfl (hC.c1 hj) ?_
  refine Ev.if_eq (pc := 101) (n := (0, 0)) (tgt := 116) dX5_isPossible_101 rfl (fun h1 => ?_) (fun h1 => ?_)
  · skip
    rw [if_neg (fun g => by omega)]
    refine Ev.iconst (pc := 116) (n := (0, 0)) dX5_isPossible_116 ?_
    exact Ev.bret dX5_isPossible_117 rfl (by decide) ⟨(Nat.le_of_ble_eq_true rfl), (Nat.le_of_ble_eq_true rfl)⟩
  · skip
    refine Ev.aload_n (pc := 104) (n := (0, 0)) (i := 2) dX5_isPossible_104 rfl rfl ?_
    refine Ev.gI (pc := 105) (n := (0, 0)) (x := (sl (q j))) dX5_isPossible_105 fl_X5_104 (hC.nd hj).1 rfl (hP.p5 hj) ?_
    refine Ev.iload_n (pc := 108) (n := (0, 0)) (i := 3) dX5_isPossible_108 rfl rfl ?_
    refine Ev.icmp_lt (pc := 109) (n := (0, 0)) (tgt := 116) dX5_isPossible_109 rfl (fun h2 => ?_) (fun h2 => ?_)
    · skip
      rw [if_neg (fun g => by omega)]
      refine Ev.iconst (pc := 116) (n := (0, 0)) dX5_isPossible_116 ?_
      exact Ev.bret dX5_isPossible_117 rfl (by decide) ⟨(Nat.le_of_ble_eq_true rfl), (Nat.le_of_ble_eq_true rfl)⟩
    · skip
      rw [if_pos ⟨by omega, by omega⟩]
      refine Ev.iconst (pc := 112) (n := (0, 0)) dX5_isPossible_112 ?_
      refine Ev.goto (pc := 113) (n := (0, 0)) (tgt := 117) dX5_isPossible_113 rfl ?_
      exact Ev.bret dX5_isPossible_117 rfl (by decide) ⟨(Nat.le_of_ble_eq_true rfl), (Nat.le_of_ble_eq_true rfl)⟩
theorem s_isPossible4 {h : zH} {T n : Nat} {F : zF} {ad dl : Int} {ar q : Nat → Nat} (hC : CT h T n F ad dl ar q) {dep : Nat → Nat} {B : Int} (hw : WF n F dep B) (hB : 24 * (60 + B) ≤ 1000000000) {len st sl dp : Int → Int} (hl : IsLen n F len) (ht : IsTm n F len st sl dp) (hP : PLN h n F len st sl dp ar q) {j : Nat} (hj : j < n) {b : Int} : Ev M_X5_isPossible 0 [(0, zr (some T)), (1, zr (some (4096 + 4))), (2, zr (some (ar j))), (3, zi b)] [] h (0, 0) (.inl (some (zi (if F (q j) 1 = 1 ∧ b ≤ F (q j) 6 then 1 else 0))), h) := by
  have b0 := (hw.2.2.2.1 (q j) (hC.qlt hj)).1
  have hn := hC.n24
  refine Ev.gsW (pc := 0) (n := (0, 0)) dX5_isPossible_0 (zgw_in (List.mem_of_getElem? (i := 436) (by decide +kernel)) rfl) ?_
  refine Ev.aload_n (pc := 3) (n := (0, 0)) (i := 1) dX5_isPossible_3 rfl rfl ?_
  refine Ev.callO (pc := 4) (n := (0, 0)) (i := 4) (s_ord (by decide)) dX5_isPossible_4 (by decide) (zgw_in (List.mem_of_getElem? (i := 438) (by decide +kernel)) rfl) ⟨(Nat.le_of_ble_eq_true rfl), (Nat.le_of_ble_eq_true rfl)⟩ (Nat.le_of_ble_eq_true rfl) ⟨(Nat.le_of_ble_eq_true rfl), (Nat.le_of_ble_eq_true rfl)⟩ ?_
  refine Ev.iaW (pc := 7) (n := (0, 0)) (x := 6) dX5_isPossible_7 (by decide) (by decide) rfl ?_
  refine Ev.tableIn (pc := 8) (n := (0, 0)) (off := 110) (tgt := 118) dX5_isPossible_8 (by omega) (by omega) (by rfl) rfl ?_
  refine Ev.aload_n (pc := 118) (n := (0, 0)) (i := 2) dX5_isPossible_118 rfl rfl ?_
  refine Ev.gI (pc := 119) (n := (0, 0)) (x := (F (q j) 1)) dX5_isPossible_119 fl_X5_68 (hC.nd hj).1 rfl (hC.c1 hj) ?_
  refine Ev.if_eq (pc := 122) (n := (0, 0)) (tgt := 137) dX5_isPossible_122 rfl (fun h1 => ?_) (fun h1 => ?_)
  · skip
    rw [if_neg (fun g => by omega)]
    refine Ev.iconst (pc := 137) (n := (0, 0)) dX5_isPossible_137 ?_
    exact Ev.bret dX5_isPossible_138 rfl (by decide) ⟨(Nat.le_of_ble_eq_true rfl), (Nat.le_of_ble_eq_true rfl)⟩
  · skip
    refine Ev.aload_n (pc := 125) (n := (0, 0)) (i := 2) dX5_isPossible_125 rfl rfl ?_
    refine Ev.gI (pc := 126) (n := (0, 0)) (x := (F (q j) 6)) dX5_isPossible_126 fl_X5_75 (hC.nd hj).1 rfl (hC.c5 hj) ?_
    refine Ev.iload_n (pc := 129) (n := (0, 0)) (i := 3) dX5_isPossible_129 rfl rfl ?_
    refine Ev.icmp_lt (pc := 130) (n := (0, 0)) (tgt := 137) dX5_isPossible_130 rfl (fun h2 => ?_) (fun h2 => ?_)
    · skip
      rw [if_neg (fun g => by omega)]
      refine Ev.iconst (pc := 137) (n := (0, 0)) dX5_isPossible_137 ?_
      exact Ev.bret dX5_isPossible_138 rfl (by decide) ⟨(Nat.le_of_ble_eq_true rfl), (Nat.le_of_ble_eq_true rfl)⟩
    · skip
      rw [if_pos ⟨by omega, by omega⟩]
      refine Ev.iconst (pc := 133) (n := (0, 0)) dX5_isPossible_133 ?_
      refine Ev.goto (pc := 134) (n := (0, 0)) (tgt := 138) dX5_isPossible_134 rfl ?_
      exact Ev.bret dX5_isPossible_138 rfl (by decide) ⟨(Nat.le_of_ble_eq_true rfl), (Nat.le_of_ble_eq_true rfl)⟩
theorem s_isPossible5 {h : zH} {T n : Nat} {F : zF} {ad dl : Int} {ar q : Nat → Nat} (hC : CT h T n F ad dl ar q) {dep : Nat → Nat} {B : Int} (hw : WF n F dep B) (hB : 24 * (60 + B) ≤ 1000000000) {len st sl dp : Int → Int} (hl : IsLen n F len) (ht : IsTm n F len st sl dp) (hP : PLN h n F len st sl dp ar q) {j : Nat} (hj : j < n) {b : Int} {p : Nat} (hz : zpos n F b = p) {v : Int} (hr9 : IsReason n F (F (q j) 0) b v) : Ev M_X5_isPossible 0 [(0, zr (some T)), (1, zr (some (4096 + 5))), (2, zr (some (ar j))), (3, zi b)] [] h (0, 0) (.inl (some (zi (if v = 0 then 1 else 0))), h) := by
  obtain ⟨j2, hj2, e2, k2⟩ := s_find_some hC hw hz
  have hb9 : F (q j2) 0 = b := by rw [e2]; exact (zpos_num hz).2
  have b0 := (hw.2.2.2.1 (q j) (hC.qlt hj)).1
  have hn := hC.n24
  refine Ev.gsW (pc := 0) (n := (0, 0)) dX5_isPossible_0 (zgw_in (List.mem_of_getElem? (i := 436) (by decide +kernel)) rfl) ?_
  refine Ev.aload_n (pc := 3) (n := (0, 0)) (i := 1) dX5_isPossible_3 rfl rfl ?_
  refine Ev.callO (pc := 4) (n := (0, 0)) (i := 5) (s_ord (by decide)) dX5_isPossible_4 (by decide) (zgw_in (List.mem_of_getElem? (i := 438) (by decide +kernel)) rfl) ⟨(Nat.le_of_ble_eq_true rfl), (Nat.le_of_ble_eq_true rfl)⟩ (Nat.le_of_ble_eq_true rfl) ⟨(Nat.le_of_ble_eq_true rfl), (Nat.le_of_ble_eq_true rfl)⟩ ?_
  refine Ev.iaW (pc := 7) (n := (0, 0)) (x := 3) dX5_isPossible_7 (by decide) (by decide) rfl ?_
  refine Ev.tableIn (pc := 8) (n := (0, 0)) (off := 66) (tgt := 74) dX5_isPossible_8 (by omega) (by omega) (by rfl) rfl ?_
  refine Ev.aload_n (pc := 74) (n := (0, 0)) (i := 2) dX5_isPossible_74 rfl rfl ?_
  refine Ev.aload_n (pc := 75) (n := (0, 0)) (i := 0) dX5_isPossible_75 rfl rfl ?_
  refine Ev.iload_n (pc := 76) (n := (0, 0)) (i := 3) dX5_isPossible_76 rfl rfl ?_
  refine Ev.callV (pc := 77) (n := (0, 0)) (ob := T) (as := [zi b]) (st := [zr (some (ar j))]) (k2) dX5_isPossible_77 ok_X5_find (lk_X5_126 rfl) ⟨(Nat.le_of_ble_eq_true rfl), (Nat.le_of_ble_eq_true rfl)⟩ hC.1.1.1 ⟨by decide, rfl⟩ rfl (Nat.le_of_ble_eq_true rfl) (Nat.le_of_ble_eq_true rfl) ⟨(Nat.le_of_ble_eq_true rfl), (Nat.le_of_ble_eq_true rfl)⟩ ?_
  refine Ev.callS (pc := 80) (n := (0, 0)) (as := [zr (some (ar j)), zr (some (ar j2))]) (st := []) (s_canMoveTo hC hw hP hj hj2 (w := v) (by rw [hb9]; exact hr9)) dX5_isPossible_80 ok_X5_canMoveTo (lk_X5_155 rfl) ⟨(Nat.le_of_ble_eq_true rfl), (Nat.le_of_ble_eq_true rfl)⟩ rfl (Nat.le_of_ble_eq_true rfl) (Nat.le_of_ble_eq_true rfl) ⟨(Nat.le_of_ble_eq_true rfl), (Nat.le_of_ble_eq_true rfl)⟩ ?_
  exact Ev.bret dX5_isPossible_83 rfl (by split <;> decide) ⟨(Nat.le_of_ble_eq_true rfl), (Nat.le_of_ble_eq_true rfl)⟩
theorem s_isPossible6 {h : zH} {T n : Nat} {F : zF} {ad dl : Int} {ar q : Nat → Nat} (hC : CT h T n F ad dl ar q) {dep : Nat → Nat} {B : Int} (hw : WF n F dep B) (hB : 24 * (60 + B) ≤ 1000000000) {len st sl dp : Int → Int} (hl : IsLen n F len) (ht : IsTm n F len st sl dp) (hP : PLN h n F len st sl dp ar q) {j : Nat} (hj : j < n) {b : Int} : Ev M_X5_isPossible 0 [(0, zr (some T)), (1, zr (some (4096 + 6))), (2, zr (some (ar j))), (3, zi b)] [] h (0, 0) (.inl (some (zi (if F (q j) 0 ≠ 0 then 1 else 0))), h) := by
  have b0 := (hw.2.2.2.1 (q j) (hC.qlt hj)).1
  have hn := hC.n24
  refine Ev.gsW (pc := 0) (n := (0, 0)) dX5_isPossible_0 (zgw_in (List.mem_of_getElem? (i := 436) (by decide +kernel)) rfl) ?_
  refine Ev.aload_n (pc := 3) (n := (0, 0)) (i := 1) dX5_isPossible_3 rfl rfl ?_
  refine Ev.callO (pc := 4) (n := (0, 0)) (i := 6) (s_ord (by decide)) dX5_isPossible_4 (by decide) (zgw_in (List.mem_of_getElem? (i := 438) (by decide +kernel)) rfl) ⟨(Nat.le_of_ble_eq_true rfl), (Nat.le_of_ble_eq_true rfl)⟩ (Nat.le_of_ble_eq_true rfl) ⟨(Nat.le_of_ble_eq_true rfl), (Nat.le_of_ble_eq_true rfl)⟩ ?_
  refine Ev.iaW (pc := 7) (n := (0, 0)) (x := 7) dX5_isPossible_7 (by decide) (by decide) rfl ?_
  refine Ev.tableIn (pc := 8) (n := (0, 0)) (off := 76) (tgt := 84) dX5_isPossible_8 (by omega) (by omega) (by rfl) rfl ?_
  refine Ev.aload_n (pc := 84) (n := (0, 0)) (i := 2) dX5_isPossible_84 rfl rfl ?_
  refine Ev.gI (pc := 85) (n := (0, 0)) (x := (F (q j) 0)) dX5_isPossible_85 fl_X5_35 (hC.nd hj).1 rfl (hC.c0 hj) ?_
  refine Ev.if_eq (pc := 88) (n := (0, 0)) (tgt := 95) dX5_isPossible_88 rfl (fun h1 => ?_) (fun h1 => ?_)
  · skip
    rw [if_neg (fun g => g h1)]
    refine Ev.iconst (pc := 95) (n := (0, 0)) dX5_isPossible_95 ?_
    exact Ev.bret dX5_isPossible_96 rfl (by decide) ⟨(Nat.le_of_ble_eq_true rfl), (Nat.le_of_ble_eq_true rfl)⟩
  · skip
    rw [if_pos h1]
    refine Ev.iconst (pc := 91) (n := (0, 0)) dX5_isPossible_91 ?_
    refine Ev.goto (pc := 92) (n := (0, 0)) (tgt := 96) dX5_isPossible_92 rfl ?_
    exact Ev.bret dX5_isPossible_96 rfl (by decide) ⟨(Nat.le_of_ble_eq_true rfl), (Nat.le_of_ble_eq_true rfl)⟩
theorem IsWhy.k1 {n : Nat} {F : zF} {a b c w : Int} (h : IsWhy n F 1 a b c w) : w = wAdd n F a b 0 := by
  rcases h with ⟨e, h⟩ | ⟨e, h⟩ | ⟨e, h⟩ | ⟨e, h⟩ | ⟨e, h⟩ | ⟨e, h⟩ | ⟨e, h⟩ | ⟨e, h⟩ <;> first | exact h | exact absurd e (by decide)
theorem IsWhy.k2 {n : Nat} {F : zF} {a b c w : Int} (h : IsWhy n F 2 a b c w) : w = wAdd n F a b c := by
  rcases h with ⟨e, h⟩ | ⟨e, h⟩ | ⟨e, h⟩ | ⟨e, h⟩ | ⟨e, h⟩ | ⟨e, h⟩ | ⟨e, h⟩ | ⟨e, h⟩ <;> first | exact h | exact absurd e (by decide)
theorem IsWhy.k3 {n : Nat} {F : zF} {a b c w : Int} (h : IsWhy n F 3 a b c w) : w = wTask n F a (if 0 ≤ b ∧ b ≤ 60 then 1 else 0) := by
  rcases h with ⟨e, h⟩ | ⟨e, h⟩ | ⟨e, h⟩ | ⟨e, h⟩ | ⟨e, h⟩ | ⟨e, h⟩ | ⟨e, h⟩ | ⟨e, h⟩ <;> first | exact h | exact absurd e (by decide)
theorem IsWhy.k4 {n : Nat} {F : zF} {a b c w : Int} (h : IsWhy n F 4 a b c w) : ∀ len st sl dp : Int → Int, IsLen n F len → IsTm n F len st sl dp → w = wBor n F sl a b := by
  rcases h with ⟨e, h⟩ | ⟨e, h⟩ | ⟨e, h⟩ | ⟨e, h⟩ | ⟨e, h⟩ | ⟨e, h⟩ | ⟨e, h⟩ | ⟨e, h⟩ <;> first | exact h | exact absurd e (by decide)
theorem IsWhy.k5 {n : Nat} {F : zF} {a b c w : Int} (h : IsWhy n F 5 a b c w) : w = wBck n F a b := by
  rcases h with ⟨e, h⟩ | ⟨e, h⟩ | ⟨e, h⟩ | ⟨e, h⟩ | ⟨e, h⟩ | ⟨e, h⟩ | ⟨e, h⟩ | ⟨e, h⟩ <;> first | exact h | exact absurd e (by decide)
theorem IsWhy.k6 {n : Nat} {F : zF} {a b c w : Int} (h : IsWhy n F 6 a b c w) : IsWMove n F a b c w := by
  rcases h with ⟨e, h⟩ | ⟨e, h⟩ | ⟨e, h⟩ | ⟨e, h⟩ | ⟨e, h⟩ | ⟨e, h⟩ | ⟨e, h⟩ | ⟨e, h⟩ <;> first | exact h | exact absurd e (by decide)
theorem IsWhy.k7 {n : Nat} {F : zF} {a b c w : Int} (h : IsWhy n F 7 a b c w) : w = wRem n F a := by
  rcases h with ⟨e, h⟩ | ⟨e, h⟩ | ⟨e, h⟩ | ⟨e, h⟩ | ⟨e, h⟩ | ⟨e, h⟩ | ⟨e, h⟩ | ⟨e, h⟩ <;> first | exact h | exact absurd e (by decide)
theorem IsWhy.k8 {n : Nat} {F : zF} {a b c w : Int} (h : IsWhy n F 8 a b c w) : w = wUnt a := by
  rcases h with ⟨e, h⟩ | ⟨e, h⟩ | ⟨e, h⟩ | ⟨e, h⟩ | ⟨e, h⟩ | ⟨e, h⟩ | ⟨e, h⟩ | ⟨e, h⟩ <;> first | exact h | exact absurd e (by decide)
theorem IsChg.k1 {n : Nat} {F : zF} {ad dl a b c : Int} {n2 : Nat} {F2 : zF} {ad2 dl2 ans : Int} (h : IsChg n F ad dl 1 a b c n2 F2 ad2 dl2 ans) : n2 = n + 1 ∧ F2 = fadd n F ad 0 a b 0 ∧ ad2 = ad + 1 ∧ dl2 = dl ∧ ans = ad := by
  rcases h with ⟨e, h⟩ | ⟨e, h⟩ | ⟨e, h⟩ | ⟨e, h⟩ | ⟨e, h⟩ | ⟨e, h⟩ | ⟨e, h⟩ | ⟨e, h⟩ <;> first | exact h | exact absurd e (by decide)
theorem IsChg.k2 {n : Nat} {F : zF} {ad dl a b c : Int} {n2 : Nat} {F2 : zF} {ad2 dl2 ans : Int} (h : IsChg n F ad dl 2 a b c n2 F2 ad2 dl2 ans) : n2 = n + 1 ∧ F2 = fadd n F ad 1 a b c ∧ ad2 = ad + 1 ∧ dl2 = dl ∧ ans = ad := by
  rcases h with ⟨e, h⟩ | ⟨e, h⟩ | ⟨e, h⟩ | ⟨e, h⟩ | ⟨e, h⟩ | ⟨e, h⟩ | ⟨e, h⟩ | ⟨e, h⟩ <;> first | exact h | exact absurd e (by decide)
theorem IsChg.k3 {n : Nat} {F : zF} {ad dl a b c : Int} {n2 : Nat} {F2 : zF} {ad2 dl2 ans : Int} (h : IsChg n F ad dl 3 a b c n2 F2 ad2 dl2 ans) : n2 = n ∧ ad2 = ad ∧ dl2 = dl ∧ ∃ k : Nat, zpos n F a = k ∧ F2 = flast F k b ∧ ∃ len st sl dp : Int → Int, IsLen n F2 len ∧ IsTm n F2 len st sl dp ∧ ans = len 0 := by
  rcases h with ⟨e, h⟩ | ⟨e, h⟩ | ⟨e, h⟩ | ⟨e, h⟩ | ⟨e, h⟩ | ⟨e, h⟩ | ⟨e, h⟩ | ⟨e, h⟩ <;> first | exact h | exact absurd e (by decide)
theorem IsChg.k4 {n : Nat} {F : zF} {ad dl a b c : Int} {n2 : Nat} {F2 : zF} {ad2 dl2 ans : Int} (h : IsChg n F ad dl 4 a b c n2 F2 ad2 dl2 ans) : n2 = n ∧ ad2 = ad ∧ dl2 = dl ∧ ∃ k : Nat, zpos n F a = k ∧ F2 = fup F k 6 (F k 6 + b) ∧ ans = F k 6 + b := by
  rcases h with ⟨e, h⟩ | ⟨e, h⟩ | ⟨e, h⟩ | ⟨e, h⟩ | ⟨e, h⟩ | ⟨e, h⟩ | ⟨e, h⟩ | ⟨e, h⟩ <;> first | exact h | exact absurd e (by decide)
theorem IsChg.k5 {n : Nat} {F : zF} {ad dl a b c : Int} {n2 : Nat} {F2 : zF} {ad2 dl2 ans : Int} (h : IsChg n F ad dl 5 a b c n2 F2 ad2 dl2 ans) : n2 = n ∧ ad2 = ad ∧ dl2 = dl ∧ ∃ k : Nat, zpos n F a = k ∧ F2 = fup F k 6 (F k 6 + -b) ∧ ans = F k 6 + -b := by
  rcases h with ⟨e, h⟩ | ⟨e, h⟩ | ⟨e, h⟩ | ⟨e, h⟩ | ⟨e, h⟩ | ⟨e, h⟩ | ⟨e, h⟩ | ⟨e, h⟩ <;> first | exact h | exact absurd e (by decide)
theorem IsChg.k6 {n : Nat} {F : zF} {ad dl a b c : Int} {n2 : Nat} {F2 : zF} {ad2 dl2 ans : Int} (h : IsChg n F ad dl 6 a b c n2 F2 ad2 dl2 ans) : n2 = n ∧ ad2 = ad ∧ dl2 = dl ∧ ∃ k : Nat, zpos n F a = k ∧ F2 = fmove n F k b c ∧ ans = mcc n (fleave n F k) b c := by
  rcases h with ⟨e, h⟩ | ⟨e, h⟩ | ⟨e, h⟩ | ⟨e, h⟩ | ⟨e, h⟩ | ⟨e, h⟩ | ⟨e, h⟩ | ⟨e, h⟩ <;> first | exact h | exact absurd e (by decide)
theorem IsChg.k7 {n : Nat} {F : zF} {ad dl a b c : Int} {n2 : Nat} {F2 : zF} {ad2 dl2 ans : Int} (h : IsChg n F ad dl 7 a b c n2 F2 ad2 dl2 ans) : ad2 = ad ∧ dl2 = dl ∧ ∃ (k : Nat) (G : Int → Int), zpos n F a = k ∧ IsRem n F k G n2 F2 ∧ ans = gcnt G n := by
  rcases h with ⟨e, h⟩ | ⟨e, h⟩ | ⟨e, h⟩ | ⟨e, h⟩ | ⟨e, h⟩ | ⟨e, h⟩ | ⟨e, h⟩ | ⟨e, h⟩ <;> first | exact h | exact absurd e (by decide)
theorem IsChg.k8 {n : Nat} {F : zF} {ad dl a b c : Int} {n2 : Nat} {F2 : zF} {ad2 dl2 ans : Int} (h : IsChg n F ad dl 8 a b c n2 F2 ad2 dl2 ans) : n2 = n ∧ F2 = F ∧ ad2 = ad ∧ dl2 = a ∧ ∃ len st sl dp : Int → Int, IsLen n F len ∧ IsTm n F len st sl dp ∧ ans = mlate (len 0) a := by
  rcases h with ⟨e, h⟩ | ⟨e, h⟩ | ⟨e, h⟩ | ⟨e, h⟩ | ⟨e, h⟩ | ⟨e, h⟩ | ⟨e, h⟩ | ⟨e, h⟩ <;> first | exact h | exact absurd e (by decide)
theorem wTask_r {n : Nat} {F : zF} {a : Int} (hz : ¬ zpos n F a = -1) : wTask n F a 0 = 2 := by
  unfold wTask
  rw [if_neg hz, if_pos rfl]
theorem wTask_t {n : Nat} {F : zF} {a : Int} {k : Nat} (hz : zpos n F a = k) (_ : F k 0 = a) (h : F k 1 = 1) : wTask n F a 1 = 0 := by
  unfold wTask
  rw [if_neg (by omega), if_neg (by decide), hz, if_pos h]
theorem wTask_g {n : Nat} {F : zF} {a : Int} {k : Nat} (hz : zpos n F a = k) (_ : F k 0 = a) (h : ¬ F k 1 = 1) : wTask n F a 1 = 3 := by
  unfold wTask
  rw [if_neg (by omega), if_neg (by decide), hz, if_neg h]
theorem s_refusal0 {h : zH} {T n : Nat} {F : zF} {ad dl : Int} {ar q : Nat → Nat} (hC : CT h T n F ad dl ar q) {dep : Nat → Nat} {B : Int} (hw : WF n F dep B) (hB : 24 * (60 + B) ≤ 1000000000) {len st sl dp : Int → Int} (hl : IsLen n F len) (ht : IsTm n F len st sl dp) (hP : PLN h n F len st sl dp ar q) {a b c w : Int} (hw9 : IsWhy n F 1 a b c w) : Ev M_X5_refusal 0 [(0, zr (some T)), (1, zr (some (4096 + 0))), (2, zi a), (3, zi b), (4, zi c)] [] h (0, 0) (.inl (some (zr (some (4104 + w.toNat)))), h) := by
  have hk := hw9.k1
  refine Ev.aload_n (pc := 0) (n := (0, 0)) (i := 1) dX5_refusal_0 rfl rfl ?_
  refine Ev.gsC (pc := 1) (n := (0, 0)) (i := 7) dX5_refusal_1 (by decide) (zgw_in (List.mem_of_getElem? (i := 418) (by decide +kernel)) rfl) ?_
  refine Ev.acmp_ne (pc := 4) (n := (0, 0)) (tgt := 28) dX5_refusal_4 rfl (Or.inr (Or.inl ⟨0, 7, by decide, by decide, rfl, rfl⟩)) (fun hc => ?_) (fun hc => absurd hc (by decide))
  refine Ev.aload_n (pc := 28) (n := (0, 0)) (i := 0) dX5_refusal_28 rfl rfl ?_
  refine Ev.iload_n (pc := 29) (n := (0, 0)) (i := 2) dX5_refusal_29 rfl rfl ?_
  by_cases hz : zpos n F a = -1
  · skip
    unfold wAdd at hk
    rw [if_pos hz] at hk
    subst hk
    refine Ev.callV (pc := 30) (n := (0, 0)) (ob := T) (as := [zi a]) (st := []) (s_find_none hC hz) dX5_refusal_30 ok_X5_find (lk_X5_126 rfl) ⟨(Nat.le_of_ble_eq_true rfl), (Nat.le_of_ble_eq_true rfl)⟩ hC.1.1.1 ⟨by decide, rfl⟩ rfl (Nat.le_of_ble_eq_true rfl) (Nat.le_of_ble_eq_true rfl) ⟨(Nat.le_of_ble_eq_true rfl), (Nat.le_of_ble_eq_true rfl)⟩ ?_
    refine Ev.astore (pc := 33) (n := (0, 0)) (i := 5) (L' := [(5, zr none), (0, zr (some T)), (1, zr (some (4096 + 0))), (2, zi a), (3, zi b), (4, zi c)]) dX5_refusal_33 (Nat.le_of_ble_eq_true rfl) rfl ?_
    refine Ev.aload (pc := 35) (n := (0, 0)) dX5_refusal_35 rfl ?_
    refine Ev.ifnull (pc := 37) (n := (0, 0)) (tgt := 55) dX5_refusal_37 rfl (fun hc => ?_) (fun x9 hc => nomatch hc)
    refine Ev.gsR (pc := 55) (n := (0, 0)) (i := 1) dX5_refusal_55 (by decide) (zgw_in (List.mem_of_getElem? (i := 431) (by decide +kernel)) rfl) ?_
    exact Ev.aret dX5_refusal_58 rfl rfl ⟨(Nat.le_of_ble_eq_true rfl), (Nat.le_of_ble_eq_true rfl)⟩
  · skip
    obtain ⟨k, hzk, hkn, hk0⟩ := zpos_ok hz
    obtain ⟨j, hj, ej, k1⟩ := s_find_some hC hw hzk
    refine Ev.callV (pc := 30) (n := (0, 0)) (ob := T) (as := [zi a]) (st := []) (k1) dX5_refusal_30 ok_X5_find (lk_X5_126 rfl) ⟨(Nat.le_of_ble_eq_true rfl), (Nat.le_of_ble_eq_true rfl)⟩ hC.1.1.1 ⟨by decide, rfl⟩ rfl (Nat.le_of_ble_eq_true rfl) (Nat.le_of_ble_eq_true rfl) ⟨(Nat.le_of_ble_eq_true rfl), (Nat.le_of_ble_eq_true rfl)⟩ ?_
    refine Ev.astore (pc := 33) (n := (0, 0)) (i := 5) (L' := [(5, zr (some (ar j))), (0, zr (some T)), (1, zr (some (4096 + 0))), (2, zi a), (3, zi b), (4, zi c)]) dX5_refusal_33 (Nat.le_of_ble_eq_true rfl) rfl ?_
    refine Ev.aload (pc := 35) (n := (0, 0)) dX5_refusal_35 rfl ?_
    refine Ev.ifnull (pc := 37) (n := (0, 0)) (tgt := 55) dX5_refusal_37 rfl (fun hc => nomatch hc) (fun x9 hc => ?_)
    refine Ev.aload_n (pc := 40) (n := (0, 0)) (i := 1) dX5_refusal_40 rfl rfl ?_
    refine Ev.gsC (pc := 41) (n := (0, 0)) (i := 5) dX5_refusal_41 (by decide) (zgw_in (List.mem_of_getElem? (i := 429) (by decide +kernel)) rfl) ?_
    refine Ev.acmp_ne (pc := 44) (n := (0, 0)) (tgt := 59) dX5_refusal_44 rfl (Or.inr (Or.inl ⟨0, 5, by decide, by decide, rfl, rfl⟩)) (fun hc => ?_) (fun hc => absurd hc (by decide))
    unfold wAdd at hk
    rw [if_neg hz] at hk
    refine Ev.aload_n (pc := 59) (n := (0, 0)) (i := 1) dX5_refusal_59 rfl rfl ?_
    refine Ev.iload_n (pc := 60) (n := (0, 0)) (i := 3) dX5_refusal_60 rfl rfl ?_
    refine Ev.iload (pc := 61) (n := (0, 0)) dX5_refusal_61 rfl ?_
    refine Ev.callS (pc := 63) (n := (0, 0)) (as := [zr (some (4096 + 0)), zi b, zi c]) (st := []) (s_areInRange0 h b c) dX5_refusal_63 ok_X5_areInRange (lk_X5_135 rfl) ⟨(Nat.le_of_ble_eq_true rfl), (Nat.le_of_ble_eq_true rfl)⟩ rfl (Nat.le_of_ble_eq_true rfl) (Nat.le_of_ble_eq_true rfl) ⟨(Nat.le_of_ble_eq_true rfl), (Nat.le_of_ble_eq_true rfl)⟩ ?_
    by_cases h1 : 0 ≤ b ∧ b ≤ 3
    · skip
      rw [if_pos h1]
      refine Ev.if_ne (pc := 66) (n := (0, 0)) (tgt := 73) dX5_refusal_66 rfl (fun hc => ?_) (fun hc => absurd hc (by decide))
      refine Ev.aload_n (pc := 73) (n := (0, 0)) (i := 0) dX5_refusal_73 rfl rfl ?_
      refine Ev.aload_n (pc := 74) (n := (0, 0)) (i := 1) dX5_refusal_74 rfl rfl ?_
      refine Ev.aload (pc := 75) (n := (0, 0)) dX5_refusal_75 rfl ?_
      refine Ev.iload_n (pc := 77) (n := (0, 0)) (i := 3) dX5_refusal_77 rfl rfl ?_
      refine Ev.callV (pc := 78) (n := (0, 0)) (ob := T) (as := [zr (some (4096 + 0)), zr (some (ar j)), zi b]) (st := []) (s_isPossible0 hC hw hB hl ht hP hj) dX5_refusal_78 ok_X5_isPossible (lk_X5_139 rfl) ⟨(Nat.le_of_ble_eq_true rfl), (Nat.le_of_ble_eq_true rfl)⟩ hC.1.1.1 ⟨by decide, rfl⟩ rfl (Nat.le_of_ble_eq_true rfl) (Nat.le_of_ble_eq_true rfl) ⟨(Nat.le_of_ble_eq_true rfl), (Nat.le_of_ble_eq_true rfl)⟩ ?_
      have b0 := (hw.2.2.2.1 (q j) (hC.qlt hj)).1
      have hn := hC.n24
      by_cases h2 : F (q j) 1 ≠ 1 ∧ n < 24
      · skip
        rw [if_pos h2]
        rw [if_neg (fun g => g ⟨h1, by decide, by decide⟩), hzk, ← ej] at hk
        have hno : ¬ (F (q j) 1 = 1 ∨ n = 24) := by omega
        rw [if_neg hno] at hk
        subst hk
        refine Ev.if_eq (pc := 81) (n := (0, 0)) (tgt := 90) dX5_refusal_81 rfl (fun hc => absurd hc (by decide)) (fun hc => ?_)
        refine Ev.gsR (pc := 84) (n := (0, 0)) (i := 0) dX5_refusal_84 (by decide) (zgw_in (List.mem_of_getElem? (i := 421) (by decide +kernel)) rfl) ?_
        refine Ev.goto (pc := 87) (n := (0, 0)) (tgt := 93) dX5_refusal_87 rfl ?_
        exact Ev.aret dX5_refusal_93 rfl rfl ⟨(Nat.le_of_ble_eq_true rfl), (Nat.le_of_ble_eq_true rfl)⟩
      · skip
        rw [if_neg h2]
        rw [if_neg (fun g => g ⟨h1, by decide, by decide⟩), hzk, ← ej] at hk
        rw [if_pos (by omega)] at hk
        subst hk
        refine Ev.if_eq (pc := 81) (n := (0, 0)) (tgt := 90) dX5_refusal_81 rfl (fun hc => ?_) (fun hc => absurd rfl hc)
        refine Ev.gsR (pc := 90) (n := (0, 0)) (i := 3) dX5_refusal_90 (by decide) (zgw_in (List.mem_of_getElem? (i := 459) (by decide +kernel)) rfl) ?_
        exact Ev.aret dX5_refusal_93 rfl rfl ⟨(Nat.le_of_ble_eq_true rfl), (Nat.le_of_ble_eq_true rfl)⟩
    · skip
      rw [if_neg h1]
      rw [if_pos (fun g => h1 g.1)] at hk
      subst hk
      refine Ev.if_ne (pc := 66) (n := (0, 0)) (tgt := 73) dX5_refusal_66 rfl (fun hc => absurd rfl hc) (fun hc => ?_)
      refine Ev.gsR (pc := 69) (n := (0, 0)) (i := 2) dX5_refusal_69 (by decide) (zgw_in (List.mem_of_getElem? (i := 423) (by decide +kernel)) rfl) ?_
      exact Ev.aret dX5_refusal_72 rfl rfl ⟨(Nat.le_of_ble_eq_true rfl), (Nat.le_of_ble_eq_true rfl)⟩
theorem s_refusal1 {h : zH} {T n : Nat} {F : zF} {ad dl : Int} {ar q : Nat → Nat} (hC : CT h T n F ad dl ar q) {dep : Nat → Nat} {B : Int} (hw : WF n F dep B) (hB : 24 * (60 + B) ≤ 1000000000) {len st sl dp : Int → Int} (hl : IsLen n F len) (ht : IsTm n F len st sl dp) (hP : PLN h n F len st sl dp ar q) {a b c w : Int} (hw9 : IsWhy n F 2 a b c w) : Ev M_X5_refusal 0 [(0, zr (some T)), (1, zr (some (4096 + 1))), (2, zi a), (3, zi b), (4, zi c)] [] h (0, 0) (.inl (some (zr (some (4104 + w.toNat)))), h) := by
  have hk := hw9.k2
  refine Ev.aload_n (pc := 0) (n := (0, 0)) (i := 1) dX5_refusal_0 rfl rfl ?_
  refine Ev.gsC (pc := 1) (n := (0, 0)) (i := 7) dX5_refusal_1 (by decide) (zgw_in (List.mem_of_getElem? (i := 418) (by decide +kernel)) rfl) ?_
  refine Ev.acmp_ne (pc := 4) (n := (0, 0)) (tgt := 28) dX5_refusal_4 rfl (Or.inr (Or.inl ⟨1, 7, by decide, by decide, rfl, rfl⟩)) (fun hc => ?_) (fun hc => absurd hc (by decide))
  refine Ev.aload_n (pc := 28) (n := (0, 0)) (i := 0) dX5_refusal_28 rfl rfl ?_
  refine Ev.iload_n (pc := 29) (n := (0, 0)) (i := 2) dX5_refusal_29 rfl rfl ?_
  by_cases hz : zpos n F a = -1
  · skip
    unfold wAdd at hk
    rw [if_pos hz] at hk
    subst hk
    refine Ev.callV (pc := 30) (n := (0, 0)) (ob := T) (as := [zi a]) (st := []) (s_find_none hC hz) dX5_refusal_30 ok_X5_find (lk_X5_126 rfl) ⟨(Nat.le_of_ble_eq_true rfl), (Nat.le_of_ble_eq_true rfl)⟩ hC.1.1.1 ⟨by decide, rfl⟩ rfl (Nat.le_of_ble_eq_true rfl) (Nat.le_of_ble_eq_true rfl) ⟨(Nat.le_of_ble_eq_true rfl), (Nat.le_of_ble_eq_true rfl)⟩ ?_
    refine Ev.astore (pc := 33) (n := (0, 0)) (i := 5) (L' := [(5, zr none), (0, zr (some T)), (1, zr (some (4096 + 1))), (2, zi a), (3, zi b), (4, zi c)]) dX5_refusal_33 (Nat.le_of_ble_eq_true rfl) rfl ?_
    refine Ev.aload (pc := 35) (n := (0, 0)) dX5_refusal_35 rfl ?_
    refine Ev.ifnull (pc := 37) (n := (0, 0)) (tgt := 55) dX5_refusal_37 rfl (fun hc => ?_) (fun x9 hc => nomatch hc)
    refine Ev.gsR (pc := 55) (n := (0, 0)) (i := 1) dX5_refusal_55 (by decide) (zgw_in (List.mem_of_getElem? (i := 431) (by decide +kernel)) rfl) ?_
    exact Ev.aret dX5_refusal_58 rfl rfl ⟨(Nat.le_of_ble_eq_true rfl), (Nat.le_of_ble_eq_true rfl)⟩
  · skip
    obtain ⟨k, hzk, hkn, hk0⟩ := zpos_ok hz
    obtain ⟨j, hj, ej, k1⟩ := s_find_some hC hw hzk
    refine Ev.callV (pc := 30) (n := (0, 0)) (ob := T) (as := [zi a]) (st := []) (k1) dX5_refusal_30 ok_X5_find (lk_X5_126 rfl) ⟨(Nat.le_of_ble_eq_true rfl), (Nat.le_of_ble_eq_true rfl)⟩ hC.1.1.1 ⟨by decide, rfl⟩ rfl (Nat.le_of_ble_eq_true rfl) (Nat.le_of_ble_eq_true rfl) ⟨(Nat.le_of_ble_eq_true rfl), (Nat.le_of_ble_eq_true rfl)⟩ ?_
    refine Ev.astore (pc := 33) (n := (0, 0)) (i := 5) (L' := [(5, zr (some (ar j))), (0, zr (some T)), (1, zr (some (4096 + 1))), (2, zi a), (3, zi b), (4, zi c)]) dX5_refusal_33 (Nat.le_of_ble_eq_true rfl) rfl ?_
    refine Ev.aload (pc := 35) (n := (0, 0)) dX5_refusal_35 rfl ?_
    refine Ev.ifnull (pc := 37) (n := (0, 0)) (tgt := 55) dX5_refusal_37 rfl (fun hc => nomatch hc) (fun x9 hc => ?_)
    refine Ev.aload_n (pc := 40) (n := (0, 0)) (i := 1) dX5_refusal_40 rfl rfl ?_
    refine Ev.gsC (pc := 41) (n := (0, 0)) (i := 5) dX5_refusal_41 (by decide) (zgw_in (List.mem_of_getElem? (i := 429) (by decide +kernel)) rfl) ?_
    refine Ev.acmp_ne (pc := 44) (n := (0, 0)) (tgt := 59) dX5_refusal_44 rfl (Or.inr (Or.inl ⟨1, 5, by decide, by decide, rfl, rfl⟩)) (fun hc => ?_) (fun hc => absurd hc (by decide))
    unfold wAdd at hk
    rw [if_neg hz] at hk
    refine Ev.aload_n (pc := 59) (n := (0, 0)) (i := 1) dX5_refusal_59 rfl rfl ?_
    refine Ev.iload_n (pc := 60) (n := (0, 0)) (i := 3) dX5_refusal_60 rfl rfl ?_
    refine Ev.iload (pc := 61) (n := (0, 0)) dX5_refusal_61 rfl ?_
    refine Ev.callS (pc := 63) (n := (0, 0)) (as := [zr (some (4096 + 1)), zi b, zi c]) (st := []) (s_areInRange1 h b c) dX5_refusal_63 ok_X5_areInRange (lk_X5_135 rfl) ⟨(Nat.le_of_ble_eq_true rfl), (Nat.le_of_ble_eq_true rfl)⟩ rfl (Nat.le_of_ble_eq_true rfl) (Nat.le_of_ble_eq_true rfl) ⟨(Nat.le_of_ble_eq_true rfl), (Nat.le_of_ble_eq_true rfl)⟩ ?_
    by_cases h1 : (0 ≤ b ∧ b ≤ 3) ∧ (0 ≤ c ∧ c ≤ 60)
    · skip
      rw [if_pos h1]
      refine Ev.if_ne (pc := 66) (n := (0, 0)) (tgt := 73) dX5_refusal_66 rfl (fun hc => ?_) (fun hc => absurd hc (by decide))
      refine Ev.aload_n (pc := 73) (n := (0, 0)) (i := 0) dX5_refusal_73 rfl rfl ?_
      refine Ev.aload_n (pc := 74) (n := (0, 0)) (i := 1) dX5_refusal_74 rfl rfl ?_
      refine Ev.aload (pc := 75) (n := (0, 0)) dX5_refusal_75 rfl ?_
      refine Ev.iload_n (pc := 77) (n := (0, 0)) (i := 3) dX5_refusal_77 rfl rfl ?_
      refine Ev.callV (pc := 78) (n := (0, 0)) (ob := T) (as := [zr (some (4096 + 1)), zr (some (ar j)), zi b]) (st := []) (s_isPossible1 hC hw hB hl ht hP hj) dX5_refusal_78 ok_X5_isPossible (lk_X5_139 rfl) ⟨(Nat.le_of_ble_eq_true rfl), (Nat.le_of_ble_eq_true rfl)⟩ hC.1.1.1 ⟨by decide, rfl⟩ rfl (Nat.le_of_ble_eq_true rfl) (Nat.le_of_ble_eq_true rfl) ⟨(Nat.le_of_ble_eq_true rfl), (Nat.le_of_ble_eq_true rfl)⟩ ?_
      have b0 := (hw.2.2.2.1 (q j) (hC.qlt hj)).1
      have hn := hC.n24
      by_cases h2 : F (q j) 1 ≠ 1 ∧ n < 24
      · skip
        rw [if_pos h2]
        rw [if_neg (fun g => g h1), hzk, ← ej] at hk
        have hno : ¬ (F (q j) 1 = 1 ∨ n = 24) := by omega
        rw [if_neg hno] at hk
        subst hk
        refine Ev.if_eq (pc := 81) (n := (0, 0)) (tgt := 90) dX5_refusal_81 rfl (fun hc => absurd hc (by decide)) (fun hc => ?_)
        refine Ev.gsR (pc := 84) (n := (0, 0)) (i := 0) dX5_refusal_84 (by decide) (zgw_in (List.mem_of_getElem? (i := 421) (by decide +kernel)) rfl) ?_
        refine Ev.goto (pc := 87) (n := (0, 0)) (tgt := 93) dX5_refusal_87 rfl ?_
        exact Ev.aret dX5_refusal_93 rfl rfl ⟨(Nat.le_of_ble_eq_true rfl), (Nat.le_of_ble_eq_true rfl)⟩
      · skip
        rw [if_neg h2]
        rw [if_neg (fun g => g h1), hzk, ← ej] at hk
        rw [if_pos (by omega)] at hk
        subst hk
        refine Ev.if_eq (pc := 81) (n := (0, 0)) (tgt := 90) dX5_refusal_81 rfl (fun hc => ?_) (fun hc => absurd rfl hc)
        refine Ev.gsR (pc := 90) (n := (0, 0)) (i := 3) dX5_refusal_90 (by decide) (zgw_in (List.mem_of_getElem? (i := 459) (by decide +kernel)) rfl) ?_
        exact Ev.aret dX5_refusal_93 rfl rfl ⟨(Nat.le_of_ble_eq_true rfl), (Nat.le_of_ble_eq_true rfl)⟩
    · skip
      rw [if_neg h1]
      rw [if_pos h1] at hk
      subst hk
      refine Ev.if_ne (pc := 66) (n := (0, 0)) (tgt := 73) dX5_refusal_66 rfl (fun hc => absurd rfl hc) (fun hc => ?_)
      refine Ev.gsR (pc := 69) (n := (0, 0)) (i := 2) dX5_refusal_69 (by decide) (zgw_in (List.mem_of_getElem? (i := 423) (by decide +kernel)) rfl) ?_
      exact Ev.aret dX5_refusal_72 rfl rfl ⟨(Nat.le_of_ble_eq_true rfl), (Nat.le_of_ble_eq_true rfl)⟩
theorem s_refusal2 {h : zH} {T n : Nat} {F : zF} {ad dl : Int} {ar q : Nat → Nat} (hC : CT h T n F ad dl ar q) {dep : Nat → Nat} {B : Int} (hw : WF n F dep B) (hB : 24 * (60 + B) ≤ 1000000000) {len st sl dp : Int → Int} (hl : IsLen n F len) (ht : IsTm n F len st sl dp) (hP : PLN h n F len st sl dp ar q) {a b c w : Int} (hw9 : IsWhy n F 3 a b c w) : Ev M_X5_refusal 0 [(0, zr (some T)), (1, zr (some (4096 + 2))), (2, zi a), (3, zi b), (4, zi c)] [] h (0, 0) (.inl (some (zr (some (4104 + w.toNat)))), h) := by
  have hk := hw9.k3
  refine Ev.aload_n (pc := 0) (n := (0, 0)) (i := 1) dX5_refusal_0 rfl rfl ?_
  refine Ev.gsC (pc := 1) (n := (0, 0)) (i := 7) dX5_refusal_1 (by decide) (zgw_in (List.mem_of_getElem? (i := 418) (by decide +kernel)) rfl) ?_
  refine Ev.acmp_ne (pc := 4) (n := (0, 0)) (tgt := 28) dX5_refusal_4 rfl (Or.inr (Or.inl ⟨2, 7, by decide, by decide, rfl, rfl⟩)) (fun hc => ?_) (fun hc => absurd hc (by decide))
  refine Ev.aload_n (pc := 28) (n := (0, 0)) (i := 0) dX5_refusal_28 rfl rfl ?_
  refine Ev.iload_n (pc := 29) (n := (0, 0)) (i := 2) dX5_refusal_29 rfl rfl ?_
  by_cases hz : zpos n F a = -1
  · skip
    unfold wTask at hk
    rw [if_pos hz] at hk
    subst hk
    refine Ev.callV (pc := 30) (n := (0, 0)) (ob := T) (as := [zi a]) (st := []) (s_find_none hC hz) dX5_refusal_30 ok_X5_find (lk_X5_126 rfl) ⟨(Nat.le_of_ble_eq_true rfl), (Nat.le_of_ble_eq_true rfl)⟩ hC.1.1.1 ⟨by decide, rfl⟩ rfl (Nat.le_of_ble_eq_true rfl) (Nat.le_of_ble_eq_true rfl) ⟨(Nat.le_of_ble_eq_true rfl), (Nat.le_of_ble_eq_true rfl)⟩ ?_
    refine Ev.astore (pc := 33) (n := (0, 0)) (i := 5) (L' := [(5, zr none), (0, zr (some T)), (1, zr (some (4096 + 2))), (2, zi a), (3, zi b), (4, zi c)]) dX5_refusal_33 (Nat.le_of_ble_eq_true rfl) rfl ?_
    refine Ev.aload (pc := 35) (n := (0, 0)) dX5_refusal_35 rfl ?_
    refine Ev.ifnull (pc := 37) (n := (0, 0)) (tgt := 55) dX5_refusal_37 rfl (fun hc => ?_) (fun x9 hc => nomatch hc)
    refine Ev.gsR (pc := 55) (n := (0, 0)) (i := 1) dX5_refusal_55 (by decide) (zgw_in (List.mem_of_getElem? (i := 431) (by decide +kernel)) rfl) ?_
    exact Ev.aret dX5_refusal_58 rfl rfl ⟨(Nat.le_of_ble_eq_true rfl), (Nat.le_of_ble_eq_true rfl)⟩
  · skip
    obtain ⟨k, hzk, hkn, hk0⟩ := zpos_ok hz
    obtain ⟨j, hj, ej, k1⟩ := s_find_some hC hw hzk
    refine Ev.callV (pc := 30) (n := (0, 0)) (ob := T) (as := [zi a]) (st := []) (k1) dX5_refusal_30 ok_X5_find (lk_X5_126 rfl) ⟨(Nat.le_of_ble_eq_true rfl), (Nat.le_of_ble_eq_true rfl)⟩ hC.1.1.1 ⟨by decide, rfl⟩ rfl (Nat.le_of_ble_eq_true rfl) (Nat.le_of_ble_eq_true rfl) ⟨(Nat.le_of_ble_eq_true rfl), (Nat.le_of_ble_eq_true rfl)⟩ ?_
    refine Ev.astore (pc := 33) (n := (0, 0)) (i := 5) (L' := [(5, zr (some (ar j))), (0, zr (some T)), (1, zr (some (4096 + 2))), (2, zi a), (3, zi b), (4, zi c)]) dX5_refusal_33 (Nat.le_of_ble_eq_true rfl) rfl ?_
    refine Ev.aload (pc := 35) (n := (0, 0)) dX5_refusal_35 rfl ?_
    refine Ev.ifnull (pc := 37) (n := (0, 0)) (tgt := 55) dX5_refusal_37 rfl (fun hc => nomatch hc) (fun x9 hc => ?_)
    refine Ev.aload_n (pc := 40) (n := (0, 0)) (i := 1) dX5_refusal_40 rfl rfl ?_
    refine Ev.gsC (pc := 41) (n := (0, 0)) (i := 5) dX5_refusal_41 (by decide) (zgw_in (List.mem_of_getElem? (i := 429) (by decide +kernel)) rfl) ?_
    refine Ev.acmp_ne (pc := 44) (n := (0, 0)) (tgt := 59) dX5_refusal_44 rfl (Or.inr (Or.inl ⟨2, 5, by decide, by decide, rfl, rfl⟩)) (fun hc => ?_) (fun hc => absurd hc (by decide))
    unfold wTask at hk
    rw [if_neg hz] at hk
    refine Ev.aload_n (pc := 59) (n := (0, 0)) (i := 1) dX5_refusal_59 rfl rfl ?_
    refine Ev.iload_n (pc := 60) (n := (0, 0)) (i := 3) dX5_refusal_60 rfl rfl ?_
    refine Ev.iload (pc := 61) (n := (0, 0)) dX5_refusal_61 rfl ?_
    refine Ev.callS (pc := 63) (n := (0, 0)) (as := [zr (some (4096 + 2)), zi b, zi c]) (st := []) (s_areInRange2 h b c) dX5_refusal_63 ok_X5_areInRange (lk_X5_135 rfl) ⟨(Nat.le_of_ble_eq_true rfl), (Nat.le_of_ble_eq_true rfl)⟩ rfl (Nat.le_of_ble_eq_true rfl) (Nat.le_of_ble_eq_true rfl) ⟨(Nat.le_of_ble_eq_true rfl), (Nat.le_of_ble_eq_true rfl)⟩ ?_
    by_cases h1 : 0 ≤ b ∧ b ≤ 60
    · skip
      rw [if_pos h1]
      refine Ev.if_ne (pc := 66) (n := (0, 0)) (tgt := 73) dX5_refusal_66 rfl (fun hc => ?_) (fun hc => absurd hc (by decide))
      refine Ev.aload_n (pc := 73) (n := (0, 0)) (i := 0) dX5_refusal_73 rfl rfl ?_
      refine Ev.aload_n (pc := 74) (n := (0, 0)) (i := 1) dX5_refusal_74 rfl rfl ?_
      refine Ev.aload (pc := 75) (n := (0, 0)) dX5_refusal_75 rfl ?_
      refine Ev.iload_n (pc := 77) (n := (0, 0)) (i := 3) dX5_refusal_77 rfl rfl ?_
      refine Ev.callV (pc := 78) (n := (0, 0)) (ob := T) (as := [zr (some (4096 + 2)), zr (some (ar j)), zi b]) (st := []) (s_isPossible2 hC hw hB hl ht hP hj) dX5_refusal_78 ok_X5_isPossible (lk_X5_139 rfl) ⟨(Nat.le_of_ble_eq_true rfl), (Nat.le_of_ble_eq_true rfl)⟩ hC.1.1.1 ⟨by decide, rfl⟩ rfl (Nat.le_of_ble_eq_true rfl) (Nat.le_of_ble_eq_true rfl) ⟨(Nat.le_of_ble_eq_true rfl), (Nat.le_of_ble_eq_true rfl)⟩ ?_
      have b0 := (hw.2.2.2.1 (q j) (hC.qlt hj)).1
      have hn := hC.n24
      by_cases h2 : F (q j) 1 = 1
      · skip
        rw [if_pos h2]
        rw [if_pos h1, if_neg (by decide), hzk, ← ej] at hk
        rw [if_pos h2] at hk
        subst hk
        refine Ev.if_eq (pc := 81) (n := (0, 0)) (tgt := 90) dX5_refusal_81 rfl (fun hc => absurd hc (by decide)) (fun hc => ?_)
        refine Ev.gsR (pc := 84) (n := (0, 0)) (i := 0) dX5_refusal_84 (by decide) (zgw_in (List.mem_of_getElem? (i := 421) (by decide +kernel)) rfl) ?_
        refine Ev.goto (pc := 87) (n := (0, 0)) (tgt := 93) dX5_refusal_87 rfl ?_
        exact Ev.aret dX5_refusal_93 rfl rfl ⟨(Nat.le_of_ble_eq_true rfl), (Nat.le_of_ble_eq_true rfl)⟩
      · skip
        rw [if_neg h2]
        rw [if_pos h1, if_neg (by decide), hzk, ← ej] at hk
        rw [if_neg h2] at hk
        subst hk
        refine Ev.if_eq (pc := 81) (n := (0, 0)) (tgt := 90) dX5_refusal_81 rfl (fun hc => ?_) (fun hc => absurd rfl hc)
        refine Ev.gsR (pc := 90) (n := (0, 0)) (i := 3) dX5_refusal_90 (by decide) (zgw_in (List.mem_of_getElem? (i := 459) (by decide +kernel)) rfl) ?_
        exact Ev.aret dX5_refusal_93 rfl rfl ⟨(Nat.le_of_ble_eq_true rfl), (Nat.le_of_ble_eq_true rfl)⟩
    · skip
      rw [if_neg h1]
      rw [if_neg h1, if_pos rfl] at hk
      subst hk
      refine Ev.if_ne (pc := 66) (n := (0, 0)) (tgt := 73) dX5_refusal_66 rfl (fun hc => absurd rfl hc) (fun hc => ?_)
      refine Ev.gsR (pc := 69) (n := (0, 0)) (i := 2) dX5_refusal_69 (by decide) (zgw_in (List.mem_of_getElem? (i := 423) (by decide +kernel)) rfl) ?_
      exact Ev.aret dX5_refusal_72 rfl rfl ⟨(Nat.le_of_ble_eq_true rfl), (Nat.le_of_ble_eq_true rfl)⟩
theorem s_refusal3 {h : zH} {T n : Nat} {F : zF} {ad dl : Int} {ar q : Nat → Nat} (hC : CT h T n F ad dl ar q) {dep : Nat → Nat} {B : Int} (hw : WF n F dep B) (hB : 24 * (60 + B) ≤ 1000000000) {len st sl dp : Int → Int} (hl : IsLen n F len) (ht : IsTm n F len st sl dp) (hP : PLN h n F len st sl dp ar q) {a b c w : Int} (hw9 : IsWhy n F 4 a b c w) : Ev M_X5_refusal 0 [(0, zr (some T)), (1, zr (some (4096 + 3))), (2, zi a), (3, zi b), (4, zi c)] [] h (0, 0) (.inl (some (zr (some (4104 + w.toNat)))), h) := by
  have hk := hw9.k4 len st sl dp hl ht
  refine Ev.aload_n (pc := 0) (n := (0, 0)) (i := 1) dX5_refusal_0 rfl rfl ?_
  refine Ev.gsC (pc := 1) (n := (0, 0)) (i := 7) dX5_refusal_1 (by decide) (zgw_in (List.mem_of_getElem? (i := 418) (by decide +kernel)) rfl) ?_
  refine Ev.acmp_ne (pc := 4) (n := (0, 0)) (tgt := 28) dX5_refusal_4 rfl (Or.inr (Or.inl ⟨3, 7, by decide, by decide, rfl, rfl⟩)) (fun hc => ?_) (fun hc => absurd hc (by decide))
  refine Ev.aload_n (pc := 28) (n := (0, 0)) (i := 0) dX5_refusal_28 rfl rfl ?_
  refine Ev.iload_n (pc := 29) (n := (0, 0)) (i := 2) dX5_refusal_29 rfl rfl ?_
  by_cases hz : zpos n F a = -1
  · skip
    unfold wBor wTask at hk
    rw [if_pos hz, if_pos (by decide)] at hk
    subst hk
    refine Ev.callV (pc := 30) (n := (0, 0)) (ob := T) (as := [zi a]) (st := []) (s_find_none hC hz) dX5_refusal_30 ok_X5_find (lk_X5_126 rfl) ⟨(Nat.le_of_ble_eq_true rfl), (Nat.le_of_ble_eq_true rfl)⟩ hC.1.1.1 ⟨by decide, rfl⟩ rfl (Nat.le_of_ble_eq_true rfl) (Nat.le_of_ble_eq_true rfl) ⟨(Nat.le_of_ble_eq_true rfl), (Nat.le_of_ble_eq_true rfl)⟩ ?_
    refine Ev.astore (pc := 33) (n := (0, 0)) (i := 5) (L' := [(5, zr none), (0, zr (some T)), (1, zr (some (4096 + 3))), (2, zi a), (3, zi b), (4, zi c)]) dX5_refusal_33 (Nat.le_of_ble_eq_true rfl) rfl ?_
    refine Ev.aload (pc := 35) (n := (0, 0)) dX5_refusal_35 rfl ?_
    refine Ev.ifnull (pc := 37) (n := (0, 0)) (tgt := 55) dX5_refusal_37 rfl (fun hc => ?_) (fun x9 hc => nomatch hc)
    refine Ev.gsR (pc := 55) (n := (0, 0)) (i := 1) dX5_refusal_55 (by decide) (zgw_in (List.mem_of_getElem? (i := 431) (by decide +kernel)) rfl) ?_
    exact Ev.aret dX5_refusal_58 rfl rfl ⟨(Nat.le_of_ble_eq_true rfl), (Nat.le_of_ble_eq_true rfl)⟩
  · skip
    obtain ⟨k, hzk, hkn, hk0⟩ := zpos_ok hz
    obtain ⟨j, hj, ej, k1⟩ := s_find_some hC hw hzk
    refine Ev.callV (pc := 30) (n := (0, 0)) (ob := T) (as := [zi a]) (st := []) (k1) dX5_refusal_30 ok_X5_find (lk_X5_126 rfl) ⟨(Nat.le_of_ble_eq_true rfl), (Nat.le_of_ble_eq_true rfl)⟩ hC.1.1.1 ⟨by decide, rfl⟩ rfl (Nat.le_of_ble_eq_true rfl) (Nat.le_of_ble_eq_true rfl) ⟨(Nat.le_of_ble_eq_true rfl), (Nat.le_of_ble_eq_true rfl)⟩ ?_
    refine Ev.astore (pc := 33) (n := (0, 0)) (i := 5) (L' := [(5, zr (some (ar j))), (0, zr (some T)), (1, zr (some (4096 + 3))), (2, zi a), (3, zi b), (4, zi c)]) dX5_refusal_33 (Nat.le_of_ble_eq_true rfl) rfl ?_
    refine Ev.aload (pc := 35) (n := (0, 0)) dX5_refusal_35 rfl ?_
    refine Ev.ifnull (pc := 37) (n := (0, 0)) (tgt := 55) dX5_refusal_37 rfl (fun hc => nomatch hc) (fun x9 hc => ?_)
    refine Ev.aload_n (pc := 40) (n := (0, 0)) (i := 1) dX5_refusal_40 rfl rfl ?_
    refine Ev.gsC (pc := 41) (n := (0, 0)) (i := 5) dX5_refusal_41 (by decide) (zgw_in (List.mem_of_getElem? (i := 429) (by decide +kernel)) rfl) ?_
    refine Ev.acmp_ne (pc := 44) (n := (0, 0)) (tgt := 59) dX5_refusal_44 rfl (Or.inr (Or.inl ⟨3, 5, by decide, by decide, rfl, rfl⟩)) (fun hc => ?_) (fun hc => absurd hc (by decide))
    unfold wBor at hk
    refine Ev.aload_n (pc := 59) (n := (0, 0)) (i := 1) dX5_refusal_59 rfl rfl ?_
    refine Ev.iload_n (pc := 60) (n := (0, 0)) (i := 3) dX5_refusal_60 rfl rfl ?_
    refine Ev.iload (pc := 61) (n := (0, 0)) dX5_refusal_61 rfl ?_
    refine Ev.callS (pc := 63) (n := (0, 0)) (as := [zr (some (4096 + 3)), zi b, zi c]) (st := []) (s_areInRange3 h b c) dX5_refusal_63 ok_X5_areInRange (lk_X5_135 rfl) ⟨(Nat.le_of_ble_eq_true rfl), (Nat.le_of_ble_eq_true rfl)⟩ rfl (Nat.le_of_ble_eq_true rfl) (Nat.le_of_ble_eq_true rfl) ⟨(Nat.le_of_ble_eq_true rfl), (Nat.le_of_ble_eq_true rfl)⟩ ?_
    by_cases h1 : 1 ≤ b ∧ b ≤ 99
    · skip
      rw [if_pos h1]
      refine Ev.if_ne (pc := 66) (n := (0, 0)) (tgt := 73) dX5_refusal_66 rfl (fun hc => ?_) (fun hc => absurd hc (by decide))
      refine Ev.aload_n (pc := 73) (n := (0, 0)) (i := 0) dX5_refusal_73 rfl rfl ?_
      refine Ev.aload_n (pc := 74) (n := (0, 0)) (i := 1) dX5_refusal_74 rfl rfl ?_
      refine Ev.aload (pc := 75) (n := (0, 0)) dX5_refusal_75 rfl ?_
      refine Ev.iload_n (pc := 77) (n := (0, 0)) (i := 3) dX5_refusal_77 rfl rfl ?_
      refine Ev.callV (pc := 78) (n := (0, 0)) (ob := T) (as := [zr (some (4096 + 3)), zr (some (ar j)), zi b]) (st := []) (s_isPossible3 hC hw hB hl ht hP hj) dX5_refusal_78 ok_X5_isPossible (lk_X5_139 rfl) ⟨(Nat.le_of_ble_eq_true rfl), (Nat.le_of_ble_eq_true rfl)⟩ hC.1.1.1 ⟨by decide, rfl⟩ rfl (Nat.le_of_ble_eq_true rfl) (Nat.le_of_ble_eq_true rfl) ⟨(Nat.le_of_ble_eq_true rfl), (Nat.le_of_ble_eq_true rfl)⟩ ?_
      have b0 := (hw.2.2.2.1 (q j) (hC.qlt hj)).1
      have hn := hC.n24
      by_cases h2 : F (q j) 1 = 1 ∧ b ≤ sl (q j)
      · skip
        rw [if_pos h2]
        rw [if_pos h1] at hk
        rw [wTask_t hzk hk0 (by rw [← ej]; exact h2.1), if_neg (fun g => g rfl), hzk, ← ej, if_neg (by omega)] at hk
        subst hk
        refine Ev.if_eq (pc := 81) (n := (0, 0)) (tgt := 90) dX5_refusal_81 rfl (fun hc => absurd hc (by decide)) (fun hc => ?_)
        refine Ev.gsR (pc := 84) (n := (0, 0)) (i := 0) dX5_refusal_84 (by decide) (zgw_in (List.mem_of_getElem? (i := 421) (by decide +kernel)) rfl) ?_
        refine Ev.goto (pc := 87) (n := (0, 0)) (tgt := 93) dX5_refusal_87 rfl ?_
        exact Ev.aret dX5_refusal_93 rfl rfl ⟨(Nat.le_of_ble_eq_true rfl), (Nat.le_of_ble_eq_true rfl)⟩
      · skip
        rw [if_neg h2]
        rw [if_pos h1] at hk
        have ek : w = 3 := by
          by_cases h3 : F (q j) 1 = 1
          · rw [wTask_t hzk hk0 (by rw [← ej]; exact h3), if_neg (fun g => g rfl), hzk, ← ej, if_pos (by omega)] at hk
            exact hk
          · rw [wTask_g hzk hk0 (by rw [← ej]; exact h3), if_pos (by decide)] at hk
            exact hk
        subst ek
        refine Ev.if_eq (pc := 81) (n := (0, 0)) (tgt := 90) dX5_refusal_81 rfl (fun hc => ?_) (fun hc => absurd rfl hc)
        refine Ev.gsR (pc := 90) (n := (0, 0)) (i := 3) dX5_refusal_90 (by decide) (zgw_in (List.mem_of_getElem? (i := 459) (by decide +kernel)) rfl) ?_
        exact Ev.aret dX5_refusal_93 rfl rfl ⟨(Nat.le_of_ble_eq_true rfl), (Nat.le_of_ble_eq_true rfl)⟩
    · skip
      rw [if_neg h1]
      rw [if_neg h1, wTask_r hz, if_pos (by decide)] at hk
      subst hk
      refine Ev.if_ne (pc := 66) (n := (0, 0)) (tgt := 73) dX5_refusal_66 rfl (fun hc => absurd rfl hc) (fun hc => ?_)
      refine Ev.gsR (pc := 69) (n := (0, 0)) (i := 2) dX5_refusal_69 (by decide) (zgw_in (List.mem_of_getElem? (i := 423) (by decide +kernel)) rfl) ?_
      exact Ev.aret dX5_refusal_72 rfl rfl ⟨(Nat.le_of_ble_eq_true rfl), (Nat.le_of_ble_eq_true rfl)⟩
theorem s_refusal4 {h : zH} {T n : Nat} {F : zF} {ad dl : Int} {ar q : Nat → Nat} (hC : CT h T n F ad dl ar q) {dep : Nat → Nat} {B : Int} (hw : WF n F dep B) (hB : 24 * (60 + B) ≤ 1000000000) {len st sl dp : Int → Int} (hl : IsLen n F len) (ht : IsTm n F len st sl dp) (hP : PLN h n F len st sl dp ar q) {a b c w : Int} (hw9 : IsWhy n F 5 a b c w) : Ev M_X5_refusal 0 [(0, zr (some T)), (1, zr (some (4096 + 4))), (2, zi a), (3, zi b), (4, zi c)] [] h (0, 0) (.inl (some (zr (some (4104 + w.toNat)))), h) := by
  have hk := hw9.k5
  refine Ev.aload_n (pc := 0) (n := (0, 0)) (i := 1) dX5_refusal_0 rfl rfl ?_
  refine Ev.gsC (pc := 1) (n := (0, 0)) (i := 7) dX5_refusal_1 (by decide) (zgw_in (List.mem_of_getElem? (i := 418) (by decide +kernel)) rfl) ?_
  refine Ev.acmp_ne (pc := 4) (n := (0, 0)) (tgt := 28) dX5_refusal_4 rfl (Or.inr (Or.inl ⟨4, 7, by decide, by decide, rfl, rfl⟩)) (fun hc => ?_) (fun hc => absurd hc (by decide))
  refine Ev.aload_n (pc := 28) (n := (0, 0)) (i := 0) dX5_refusal_28 rfl rfl ?_
  refine Ev.iload_n (pc := 29) (n := (0, 0)) (i := 2) dX5_refusal_29 rfl rfl ?_
  by_cases hz : zpos n F a = -1
  · skip
    unfold wBck wTask at hk
    rw [if_pos hz, if_pos (by decide)] at hk
    subst hk
    refine Ev.callV (pc := 30) (n := (0, 0)) (ob := T) (as := [zi a]) (st := []) (s_find_none hC hz) dX5_refusal_30 ok_X5_find (lk_X5_126 rfl) ⟨(Nat.le_of_ble_eq_true rfl), (Nat.le_of_ble_eq_true rfl)⟩ hC.1.1.1 ⟨by decide, rfl⟩ rfl (Nat.le_of_ble_eq_true rfl) (Nat.le_of_ble_eq_true rfl) ⟨(Nat.le_of_ble_eq_true rfl), (Nat.le_of_ble_eq_true rfl)⟩ ?_
    refine Ev.astore (pc := 33) (n := (0, 0)) (i := 5) (L' := [(5, zr none), (0, zr (some T)), (1, zr (some (4096 + 4))), (2, zi a), (3, zi b), (4, zi c)]) dX5_refusal_33 (Nat.le_of_ble_eq_true rfl) rfl ?_
    refine Ev.aload (pc := 35) (n := (0, 0)) dX5_refusal_35 rfl ?_
    refine Ev.ifnull (pc := 37) (n := (0, 0)) (tgt := 55) dX5_refusal_37 rfl (fun hc => ?_) (fun x9 hc => nomatch hc)
    refine Ev.gsR (pc := 55) (n := (0, 0)) (i := 1) dX5_refusal_55 (by decide) (zgw_in (List.mem_of_getElem? (i := 431) (by decide +kernel)) rfl) ?_
    exact Ev.aret dX5_refusal_58 rfl rfl ⟨(Nat.le_of_ble_eq_true rfl), (Nat.le_of_ble_eq_true rfl)⟩
  · skip
    obtain ⟨k, hzk, hkn, hk0⟩ := zpos_ok hz
    obtain ⟨j, hj, ej, k1⟩ := s_find_some hC hw hzk
    refine Ev.callV (pc := 30) (n := (0, 0)) (ob := T) (as := [zi a]) (st := []) (k1) dX5_refusal_30 ok_X5_find (lk_X5_126 rfl) ⟨(Nat.le_of_ble_eq_true rfl), (Nat.le_of_ble_eq_true rfl)⟩ hC.1.1.1 ⟨by decide, rfl⟩ rfl (Nat.le_of_ble_eq_true rfl) (Nat.le_of_ble_eq_true rfl) ⟨(Nat.le_of_ble_eq_true rfl), (Nat.le_of_ble_eq_true rfl)⟩ ?_
    refine Ev.astore (pc := 33) (n := (0, 0)) (i := 5) (L' := [(5, zr (some (ar j))), (0, zr (some T)), (1, zr (some (4096 + 4))), (2, zi a), (3, zi b), (4, zi c)]) dX5_refusal_33 (Nat.le_of_ble_eq_true rfl) rfl ?_
    refine Ev.aload (pc := 35) (n := (0, 0)) dX5_refusal_35 rfl ?_
    refine Ev.ifnull (pc := 37) (n := (0, 0)) (tgt := 55) dX5_refusal_37 rfl (fun hc => nomatch hc) (fun x9 hc => ?_)
    refine Ev.aload_n (pc := 40) (n := (0, 0)) (i := 1) dX5_refusal_40 rfl rfl ?_
    refine Ev.gsC (pc := 41) (n := (0, 0)) (i := 5) dX5_refusal_41 (by decide) (zgw_in (List.mem_of_getElem? (i := 429) (by decide +kernel)) rfl) ?_
    refine Ev.acmp_ne (pc := 44) (n := (0, 0)) (tgt := 59) dX5_refusal_44 rfl (Or.inr (Or.inl ⟨4, 5, by decide, by decide, rfl, rfl⟩)) (fun hc => ?_) (fun hc => absurd hc (by decide))
    unfold wBck at hk
    refine Ev.aload_n (pc := 59) (n := (0, 0)) (i := 1) dX5_refusal_59 rfl rfl ?_
    refine Ev.iload_n (pc := 60) (n := (0, 0)) (i := 3) dX5_refusal_60 rfl rfl ?_
    refine Ev.iload (pc := 61) (n := (0, 0)) dX5_refusal_61 rfl ?_
    refine Ev.callS (pc := 63) (n := (0, 0)) (as := [zr (some (4096 + 4)), zi b, zi c]) (st := []) (s_areInRange4 h b c) dX5_refusal_63 ok_X5_areInRange (lk_X5_135 rfl) ⟨(Nat.le_of_ble_eq_true rfl), (Nat.le_of_ble_eq_true rfl)⟩ rfl (Nat.le_of_ble_eq_true rfl) (Nat.le_of_ble_eq_true rfl) ⟨(Nat.le_of_ble_eq_true rfl), (Nat.le_of_ble_eq_true rfl)⟩ ?_
    by_cases h1 : 1 ≤ b ∧ b ≤ 99
    · skip
      rw [if_pos h1]
      refine Ev.if_ne (pc := 66) (n := (0, 0)) (tgt := 73) dX5_refusal_66 rfl (fun hc => ?_) (fun hc => absurd hc (by decide))
      refine Ev.aload_n (pc := 73) (n := (0, 0)) (i := 0) dX5_refusal_73 rfl rfl ?_
      refine Ev.aload_n (pc := 74) (n := (0, 0)) (i := 1) dX5_refusal_74 rfl rfl ?_
      refine Ev.aload (pc := 75) (n := (0, 0)) dX5_refusal_75 rfl ?_
      refine Ev.iload_n (pc := 77) (n := (0, 0)) (i := 3) dX5_refusal_77 rfl rfl ?_
      refine Ev.callV (pc := 78) (n := (0, 0)) (ob := T) (as := [zr (some (4096 + 4)), zr (some (ar j)), zi b]) (st := []) (s_isPossible4 hC hw hB hl ht hP hj) dX5_refusal_78 ok_X5_isPossible (lk_X5_139 rfl) ⟨(Nat.le_of_ble_eq_true rfl), (Nat.le_of_ble_eq_true rfl)⟩ hC.1.1.1 ⟨by decide, rfl⟩ rfl (Nat.le_of_ble_eq_true rfl) (Nat.le_of_ble_eq_true rfl) ⟨(Nat.le_of_ble_eq_true rfl), (Nat.le_of_ble_eq_true rfl)⟩ ?_
      have b0 := (hw.2.2.2.1 (q j) (hC.qlt hj)).1
      have hn := hC.n24
      by_cases h2 : F (q j) 1 = 1 ∧ b ≤ F (q j) 6
      · skip
        rw [if_pos h2]
        rw [if_pos h1] at hk
        rw [wTask_t hzk hk0 (by rw [← ej]; exact h2.1), if_neg (fun g => g rfl), hzk, ← ej, if_neg (by omega)] at hk
        subst hk
        refine Ev.if_eq (pc := 81) (n := (0, 0)) (tgt := 90) dX5_refusal_81 rfl (fun hc => absurd hc (by decide)) (fun hc => ?_)
        refine Ev.gsR (pc := 84) (n := (0, 0)) (i := 0) dX5_refusal_84 (by decide) (zgw_in (List.mem_of_getElem? (i := 421) (by decide +kernel)) rfl) ?_
        refine Ev.goto (pc := 87) (n := (0, 0)) (tgt := 93) dX5_refusal_87 rfl ?_
        exact Ev.aret dX5_refusal_93 rfl rfl ⟨(Nat.le_of_ble_eq_true rfl), (Nat.le_of_ble_eq_true rfl)⟩
      · skip
        rw [if_neg h2]
        rw [if_pos h1] at hk
        have ek : w = 3 := by
          by_cases h3 : F (q j) 1 = 1
          · rw [wTask_t hzk hk0 (by rw [← ej]; exact h3), if_neg (fun g => g rfl), hzk, ← ej, if_pos (by omega)] at hk
            exact hk
          · rw [wTask_g hzk hk0 (by rw [← ej]; exact h3), if_pos (by decide)] at hk
            exact hk
        subst ek
        refine Ev.if_eq (pc := 81) (n := (0, 0)) (tgt := 90) dX5_refusal_81 rfl (fun hc => ?_) (fun hc => absurd rfl hc)
        refine Ev.gsR (pc := 90) (n := (0, 0)) (i := 3) dX5_refusal_90 (by decide) (zgw_in (List.mem_of_getElem? (i := 459) (by decide +kernel)) rfl) ?_
        exact Ev.aret dX5_refusal_93 rfl rfl ⟨(Nat.le_of_ble_eq_true rfl), (Nat.le_of_ble_eq_true rfl)⟩
    · skip
      rw [if_neg h1]
      rw [if_neg h1, wTask_r hz, if_pos (by decide)] at hk
      subst hk
      refine Ev.if_ne (pc := 66) (n := (0, 0)) (tgt := 73) dX5_refusal_66 rfl (fun hc => absurd rfl hc) (fun hc => ?_)
      refine Ev.gsR (pc := 69) (n := (0, 0)) (i := 2) dX5_refusal_69 (by decide) (zgw_in (List.mem_of_getElem? (i := 423) (by decide +kernel)) rfl) ?_
      exact Ev.aret dX5_refusal_72 rfl rfl ⟨(Nat.le_of_ble_eq_true rfl), (Nat.le_of_ble_eq_true rfl)⟩
theorem s_refusal5 {h : zH} {T n : Nat} {F : zF} {ad dl : Int} {ar q : Nat → Nat} (hC : CT h T n F ad dl ar q) {dep : Nat → Nat} {B : Int} (hw : WF n F dep B) (hB : 24 * (60 + B) ≤ 1000000000) {len st sl dp : Int → Int} (hl : IsLen n F len) (ht : IsTm n F len st sl dp) (hP : PLN h n F len st sl dp ar q) {a b c w : Int} (hw9 : IsWhy n F 6 a b c w) : Ev M_X5_refusal 0 [(0, zr (some T)), (1, zr (some (4096 + 5))), (2, zi a), (3, zi b), (4, zi c)] [] h (0, 0) (.inl (some (zr (some (4104 + w.toNat)))), h) := by
  have hk := hw9.k6
  refine Ev.aload_n (pc := 0) (n := (0, 0)) (i := 1) dX5_refusal_0 rfl rfl ?_
  refine Ev.gsC (pc := 1) (n := (0, 0)) (i := 7) dX5_refusal_1 (by decide) (zgw_in (List.mem_of_getElem? (i := 418) (by decide +kernel)) rfl) ?_
  refine Ev.acmp_ne (pc := 4) (n := (0, 0)) (tgt := 28) dX5_refusal_4 rfl (Or.inr (Or.inl ⟨5, 7, by decide, by decide, rfl, rfl⟩)) (fun hc => ?_) (fun hc => absurd hc (by decide))
  refine Ev.aload_n (pc := 28) (n := (0, 0)) (i := 0) dX5_refusal_28 rfl rfl ?_
  refine Ev.iload_n (pc := 29) (n := (0, 0)) (i := 2) dX5_refusal_29 rfl rfl ?_
  by_cases hz : zpos n F a = -1
  · skip
    rcases hk with ⟨-, rfl⟩ | ⟨g1, -⟩
    rotate_left
    · exact absurd hz g1
    refine Ev.callV (pc := 30) (n := (0, 0)) (ob := T) (as := [zi a]) (st := []) (s_find_none hC hz) dX5_refusal_30 ok_X5_find (lk_X5_126 rfl) ⟨(Nat.le_of_ble_eq_true rfl), (Nat.le_of_ble_eq_true rfl)⟩ hC.1.1.1 ⟨by decide, rfl⟩ rfl (Nat.le_of_ble_eq_true rfl) (Nat.le_of_ble_eq_true rfl) ⟨(Nat.le_of_ble_eq_true rfl), (Nat.le_of_ble_eq_true rfl)⟩ ?_
    refine Ev.astore (pc := 33) (n := (0, 0)) (i := 5) (L' := [(5, zr none), (0, zr (some T)), (1, zr (some (4096 + 5))), (2, zi a), (3, zi b), (4, zi c)]) dX5_refusal_33 (Nat.le_of_ble_eq_true rfl) rfl ?_
    refine Ev.aload (pc := 35) (n := (0, 0)) dX5_refusal_35 rfl ?_
    refine Ev.ifnull (pc := 37) (n := (0, 0)) (tgt := 55) dX5_refusal_37 rfl (fun hc => ?_) (fun x9 hc => nomatch hc)
    refine Ev.gsR (pc := 55) (n := (0, 0)) (i := 1) dX5_refusal_55 (by decide) (zgw_in (List.mem_of_getElem? (i := 431) (by decide +kernel)) rfl) ?_
    exact Ev.aret dX5_refusal_58 rfl rfl ⟨(Nat.le_of_ble_eq_true rfl), (Nat.le_of_ble_eq_true rfl)⟩
  · skip
    obtain ⟨k, hzk, hkn, hk0⟩ := zpos_ok hz
    obtain ⟨j, hj, ej, k1⟩ := s_find_some hC hw hzk
    refine Ev.callV (pc := 30) (n := (0, 0)) (ob := T) (as := [zi a]) (st := []) (k1) dX5_refusal_30 ok_X5_find (lk_X5_126 rfl) ⟨(Nat.le_of_ble_eq_true rfl), (Nat.le_of_ble_eq_true rfl)⟩ hC.1.1.1 ⟨by decide, rfl⟩ rfl (Nat.le_of_ble_eq_true rfl) (Nat.le_of_ble_eq_true rfl) ⟨(Nat.le_of_ble_eq_true rfl), (Nat.le_of_ble_eq_true rfl)⟩ ?_
    refine Ev.astore (pc := 33) (n := (0, 0)) (i := 5) (L' := [(5, zr (some (ar j))), (0, zr (some T)), (1, zr (some (4096 + 5))), (2, zi a), (3, zi b), (4, zi c)]) dX5_refusal_33 (Nat.le_of_ble_eq_true rfl) rfl ?_
    refine Ev.aload (pc := 35) (n := (0, 0)) dX5_refusal_35 rfl ?_
    refine Ev.ifnull (pc := 37) (n := (0, 0)) (tgt := 55) dX5_refusal_37 rfl (fun hc => nomatch hc) (fun x9 hc => ?_)
    refine Ev.aload_n (pc := 40) (n := (0, 0)) (i := 1) dX5_refusal_40 rfl rfl ?_
    refine Ev.gsC (pc := 41) (n := (0, 0)) (i := 5) dX5_refusal_41 (by decide) (zgw_in (List.mem_of_getElem? (i := 429) (by decide +kernel)) rfl) ?_
    refine Ev.acmp_ne (pc := 44) (n := (0, 0)) (tgt := 59) dX5_refusal_44 rfl (Or.inr (Or.inl ⟨5, 5, by decide, by decide, rfl, rfl⟩)) (fun hc => absurd rfl hc) (fun hc => ?_)
    refine Ev.aload_n (pc := 47) (n := (0, 0)) (i := 0) dX5_refusal_47 rfl rfl ?_
    refine Ev.iload_n (pc := 48) (n := (0, 0)) (i := 3) dX5_refusal_48 rfl rfl ?_
    by_cases hz2 : zpos n F b = -1
    · skip
      rcases hk with ⟨-, rfl⟩ | ⟨-, g2, -⟩
      rotate_left
      · exact absurd hz2 g2
      refine Ev.callV (pc := 49) (n := (0, 0)) (ob := T) (as := [zi b]) (st := []) (s_find_none hC hz2) dX5_refusal_49 ok_X5_find (lk_X5_126 rfl) ⟨(Nat.le_of_ble_eq_true rfl), (Nat.le_of_ble_eq_true rfl)⟩ hC.1.1.1 ⟨by decide, rfl⟩ rfl (Nat.le_of_ble_eq_true rfl) (Nat.le_of_ble_eq_true rfl) ⟨(Nat.le_of_ble_eq_true rfl), (Nat.le_of_ble_eq_true rfl)⟩ ?_
      refine Ev.ifnonnull (pc := 52) (n := (0, 0)) (tgt := 59) dX5_refusal_52 rfl (fun x9 hc => nomatch hc) (fun hc => ?_)
      refine Ev.gsR (pc := 55) (n := (0, 0)) (i := 1) dX5_refusal_55 (by decide) (zgw_in (List.mem_of_getElem? (i := 431) (by decide +kernel)) rfl) ?_
      exact Ev.aret dX5_refusal_58 rfl rfl ⟨(Nat.le_of_ble_eq_true rfl), (Nat.le_of_ble_eq_true rfl)⟩
    · skip
      obtain ⟨p, hzp, hpn, hp0⟩ := zpos_ok hz2
      obtain ⟨j2, hj2, ej2, k2⟩ := s_find_some hC hw hzp
      rcases hk with ⟨g1 | g1, -⟩ | ⟨-, -, hk⟩
      · exact absurd g1 hz
      · exact absurd g1 hz2
      refine Ev.callV (pc := 49) (n := (0, 0)) (ob := T) (as := [zi b]) (st := []) (k2) dX5_refusal_49 ok_X5_find (lk_X5_126 rfl) ⟨(Nat.le_of_ble_eq_true rfl), (Nat.le_of_ble_eq_true rfl)⟩ hC.1.1.1 ⟨by decide, rfl⟩ rfl (Nat.le_of_ble_eq_true rfl) (Nat.le_of_ble_eq_true rfl) ⟨(Nat.le_of_ble_eq_true rfl), (Nat.le_of_ble_eq_true rfl)⟩ ?_
      refine Ev.ifnonnull (pc := 52) (n := (0, 0)) (tgt := 59) dX5_refusal_52 rfl (fun x9 hc => ?_) (fun hc => nomatch hc)
      refine Ev.aload_n (pc := 59) (n := (0, 0)) (i := 1) dX5_refusal_59 rfl rfl ?_
      refine Ev.iload_n (pc := 60) (n := (0, 0)) (i := 3) dX5_refusal_60 rfl rfl ?_
      refine Ev.iload (pc := 61) (n := (0, 0)) dX5_refusal_61 rfl ?_
      refine Ev.callS (pc := 63) (n := (0, 0)) (as := [zr (some (4096 + 5)), zi b, zi c]) (st := []) (s_areInRange5 h b c) dX5_refusal_63 ok_X5_areInRange (lk_X5_135 rfl) ⟨(Nat.le_of_ble_eq_true rfl), (Nat.le_of_ble_eq_true rfl)⟩ rfl (Nat.le_of_ble_eq_true rfl) (Nat.le_of_ble_eq_true rfl) ⟨(Nat.le_of_ble_eq_true rfl), (Nat.le_of_ble_eq_true rfl)⟩ ?_
      by_cases h1 : 0 ≤ c ∧ c ≤ 3
      · skip
        rw [if_pos h1]
        refine Ev.if_ne (pc := 66) (n := (0, 0)) (tgt := 73) dX5_refusal_66 rfl (fun hc => ?_) (fun hc => absurd hc (by decide))
        refine Ev.aload_n (pc := 73) (n := (0, 0)) (i := 0) dX5_refusal_73 rfl rfl ?_
        refine Ev.aload_n (pc := 74) (n := (0, 0)) (i := 1) dX5_refusal_74 rfl rfl ?_
        refine Ev.aload (pc := 75) (n := (0, 0)) dX5_refusal_75 rfl ?_
        refine Ev.iload_n (pc := 77) (n := (0, 0)) (i := 3) dX5_refusal_77 rfl rfl ?_
        rcases hk with ⟨g1, -⟩ | ⟨-, v, hv, rfl⟩
        · exact absurd h1 g1
        have hv2 : IsReason n F (F (q j) 0) b v := by rw [ej, hk0]; exact hv
        refine Ev.callV (pc := 78) (n := (0, 0)) (ob := T) (as := [zr (some (4096 + 5)), zr (some (ar j)), zi b]) (st := []) (s_isPossible5 hC hw hB hl ht hP hj hzp hv2) dX5_refusal_78 ok_X5_isPossible (lk_X5_139 rfl) ⟨(Nat.le_of_ble_eq_true rfl), (Nat.le_of_ble_eq_true rfl)⟩ hC.1.1.1 ⟨by decide, rfl⟩ rfl (Nat.le_of_ble_eq_true rfl) (Nat.le_of_ble_eq_true rfl) ⟨(Nat.le_of_ble_eq_true rfl), (Nat.le_of_ble_eq_true rfl)⟩ ?_
        have b0 := (hw.2.2.2.1 (q j) (hC.qlt hj)).1
        have hn := hC.n24
        by_cases h2 : v = 0
        · skip
          rw [if_pos h2]
          subst h2
          rw [if_neg (by decide)]
          refine Ev.if_eq (pc := 81) (n := (0, 0)) (tgt := 90) dX5_refusal_81 rfl (fun hc => absurd hc (by decide)) (fun hc => ?_)
          refine Ev.gsR (pc := 84) (n := (0, 0)) (i := 0) dX5_refusal_84 (by decide) (zgw_in (List.mem_of_getElem? (i := 421) (by decide +kernel)) rfl) ?_
          refine Ev.goto (pc := 87) (n := (0, 0)) (tgt := 93) dX5_refusal_87 rfl ?_
          exact Ev.aret dX5_refusal_93 rfl rfl ⟨(Nat.le_of_ble_eq_true rfl), (Nat.le_of_ble_eq_true rfl)⟩
        · skip
          rw [if_neg h2]
          have hv3 : v = 1 ∨ v = 2 ∨ v = 3 ∨ v = 0 := by
            rcases hv with ⟨e, -⟩ | ⟨e, -⟩ | ⟨e, -⟩ | ⟨e, -⟩ <;> omega
          rw [if_pos (by omega)]
          refine Ev.if_eq (pc := 81) (n := (0, 0)) (tgt := 90) dX5_refusal_81 rfl (fun hc => ?_) (fun hc => absurd rfl hc)
          refine Ev.gsR (pc := 90) (n := (0, 0)) (i := 3) dX5_refusal_90 (by decide) (zgw_in (List.mem_of_getElem? (i := 459) (by decide +kernel)) rfl) ?_
          exact Ev.aret dX5_refusal_93 rfl rfl ⟨(Nat.le_of_ble_eq_true rfl), (Nat.le_of_ble_eq_true rfl)⟩
      · skip
        rw [if_neg h1]
        rcases hk with ⟨-, rfl⟩ | ⟨g1, -⟩
        rotate_left
        · exact absurd g1 h1
        refine Ev.if_ne (pc := 66) (n := (0, 0)) (tgt := 73) dX5_refusal_66 rfl (fun hc => absurd rfl hc) (fun hc => ?_)
        refine Ev.gsR (pc := 69) (n := (0, 0)) (i := 2) dX5_refusal_69 (by decide) (zgw_in (List.mem_of_getElem? (i := 423) (by decide +kernel)) rfl) ?_
        exact Ev.aret dX5_refusal_72 rfl rfl ⟨(Nat.le_of_ble_eq_true rfl), (Nat.le_of_ble_eq_true rfl)⟩
theorem s_refusal6 {h : zH} {T n : Nat} {F : zF} {ad dl : Int} {ar q : Nat → Nat} (hC : CT h T n F ad dl ar q) {dep : Nat → Nat} {B : Int} (hw : WF n F dep B) (hB : 24 * (60 + B) ≤ 1000000000) {len st sl dp : Int → Int} (hl : IsLen n F len) (ht : IsTm n F len st sl dp) (hP : PLN h n F len st sl dp ar q) {a b c w : Int} (hw9 : IsWhy n F 7 a b c w) : Ev M_X5_refusal 0 [(0, zr (some T)), (1, zr (some (4096 + 6))), (2, zi a), (3, zi b), (4, zi c)] [] h (0, 0) (.inl (some (zr (some (4104 + w.toNat)))), h) := by
  have hk := hw9.k7
  refine Ev.aload_n (pc := 0) (n := (0, 0)) (i := 1) dX5_refusal_0 rfl rfl ?_
  refine Ev.gsC (pc := 1) (n := (0, 0)) (i := 7) dX5_refusal_1 (by decide) (zgw_in (List.mem_of_getElem? (i := 418) (by decide +kernel)) rfl) ?_
  refine Ev.acmp_ne (pc := 4) (n := (0, 0)) (tgt := 28) dX5_refusal_4 rfl (Or.inr (Or.inl ⟨6, 7, by decide, by decide, rfl, rfl⟩)) (fun hc => ?_) (fun hc => absurd hc (by decide))
  refine Ev.aload_n (pc := 28) (n := (0, 0)) (i := 0) dX5_refusal_28 rfl rfl ?_
  refine Ev.iload_n (pc := 29) (n := (0, 0)) (i := 2) dX5_refusal_29 rfl rfl ?_
  by_cases hz : zpos n F a = -1
  · skip
    unfold wRem at hk
    rw [if_pos hz] at hk
    subst hk
    refine Ev.callV (pc := 30) (n := (0, 0)) (ob := T) (as := [zi a]) (st := []) (s_find_none hC hz) dX5_refusal_30 ok_X5_find (lk_X5_126 rfl) ⟨(Nat.le_of_ble_eq_true rfl), (Nat.le_of_ble_eq_true rfl)⟩ hC.1.1.1 ⟨by decide, rfl⟩ rfl (Nat.le_of_ble_eq_true rfl) (Nat.le_of_ble_eq_true rfl) ⟨(Nat.le_of_ble_eq_true rfl), (Nat.le_of_ble_eq_true rfl)⟩ ?_
    refine Ev.astore (pc := 33) (n := (0, 0)) (i := 5) (L' := [(5, zr none), (0, zr (some T)), (1, zr (some (4096 + 6))), (2, zi a), (3, zi b), (4, zi c)]) dX5_refusal_33 (Nat.le_of_ble_eq_true rfl) rfl ?_
    refine Ev.aload (pc := 35) (n := (0, 0)) dX5_refusal_35 rfl ?_
    refine Ev.ifnull (pc := 37) (n := (0, 0)) (tgt := 55) dX5_refusal_37 rfl (fun hc => ?_) (fun x9 hc => nomatch hc)
    refine Ev.gsR (pc := 55) (n := (0, 0)) (i := 1) dX5_refusal_55 (by decide) (zgw_in (List.mem_of_getElem? (i := 431) (by decide +kernel)) rfl) ?_
    exact Ev.aret dX5_refusal_58 rfl rfl ⟨(Nat.le_of_ble_eq_true rfl), (Nat.le_of_ble_eq_true rfl)⟩
  · skip
    obtain ⟨k, hzk, hkn, hk0⟩ := zpos_ok hz
    obtain ⟨j, hj, ej, k1⟩ := s_find_some hC hw hzk
    refine Ev.callV (pc := 30) (n := (0, 0)) (ob := T) (as := [zi a]) (st := []) (k1) dX5_refusal_30 ok_X5_find (lk_X5_126 rfl) ⟨(Nat.le_of_ble_eq_true rfl), (Nat.le_of_ble_eq_true rfl)⟩ hC.1.1.1 ⟨by decide, rfl⟩ rfl (Nat.le_of_ble_eq_true rfl) (Nat.le_of_ble_eq_true rfl) ⟨(Nat.le_of_ble_eq_true rfl), (Nat.le_of_ble_eq_true rfl)⟩ ?_
    refine Ev.astore (pc := 33) (n := (0, 0)) (i := 5) (L' := [(5, zr (some (ar j))), (0, zr (some T)), (1, zr (some (4096 + 6))), (2, zi a), (3, zi b), (4, zi c)]) dX5_refusal_33 (Nat.le_of_ble_eq_true rfl) rfl ?_
    refine Ev.aload (pc := 35) (n := (0, 0)) dX5_refusal_35 rfl ?_
    refine Ev.ifnull (pc := 37) (n := (0, 0)) (tgt := 55) dX5_refusal_37 rfl (fun hc => nomatch hc) (fun x9 hc => ?_)
    refine Ev.aload_n (pc := 40) (n := (0, 0)) (i := 1) dX5_refusal_40 rfl rfl ?_
    refine Ev.gsC (pc := 41) (n := (0, 0)) (i := 5) dX5_refusal_41 (by decide) (zgw_in (List.mem_of_getElem? (i := 429) (by decide +kernel)) rfl) ?_
    refine Ev.acmp_ne (pc := 44) (n := (0, 0)) (tgt := 59) dX5_refusal_44 rfl (Or.inr (Or.inl ⟨6, 5, by decide, by decide, rfl, rfl⟩)) (fun hc => ?_) (fun hc => absurd hc (by decide))
    unfold wRem at hk
    rw [if_neg hz] at hk
    refine Ev.aload_n (pc := 59) (n := (0, 0)) (i := 1) dX5_refusal_59 rfl rfl ?_
    refine Ev.iload_n (pc := 60) (n := (0, 0)) (i := 3) dX5_refusal_60 rfl rfl ?_
    refine Ev.iload (pc := 61) (n := (0, 0)) dX5_refusal_61 rfl ?_
    refine Ev.callS (pc := 63) (n := (0, 0)) (as := [zr (some (4096 + 6)), zi b, zi c]) (st := []) (s_areInRange6 h b c) dX5_refusal_63 ok_X5_areInRange (lk_X5_135 rfl) ⟨(Nat.le_of_ble_eq_true rfl), (Nat.le_of_ble_eq_true rfl)⟩ rfl (Nat.le_of_ble_eq_true rfl) (Nat.le_of_ble_eq_true rfl) ⟨(Nat.le_of_ble_eq_true rfl), (Nat.le_of_ble_eq_true rfl)⟩ ?_
    by_cases h1 : True
    · skip
      rw [if_pos h1]
      refine Ev.if_ne (pc := 66) (n := (0, 0)) (tgt := 73) dX5_refusal_66 rfl (fun hc => ?_) (fun hc => absurd hc (by decide))
      refine Ev.aload_n (pc := 73) (n := (0, 0)) (i := 0) dX5_refusal_73 rfl rfl ?_
      refine Ev.aload_n (pc := 74) (n := (0, 0)) (i := 1) dX5_refusal_74 rfl rfl ?_
      refine Ev.aload (pc := 75) (n := (0, 0)) dX5_refusal_75 rfl ?_
      refine Ev.iload_n (pc := 77) (n := (0, 0)) (i := 3) dX5_refusal_77 rfl rfl ?_
      refine Ev.callV (pc := 78) (n := (0, 0)) (ob := T) (as := [zr (some (4096 + 6)), zr (some (ar j)), zi b]) (st := []) (s_isPossible6 hC hw hB hl ht hP hj) dX5_refusal_78 ok_X5_isPossible (lk_X5_139 rfl) ⟨(Nat.le_of_ble_eq_true rfl), (Nat.le_of_ble_eq_true rfl)⟩ hC.1.1.1 ⟨by decide, rfl⟩ rfl (Nat.le_of_ble_eq_true rfl) (Nat.le_of_ble_eq_true rfl) ⟨(Nat.le_of_ble_eq_true rfl), (Nat.le_of_ble_eq_true rfl)⟩ ?_
      have b0 := (hw.2.2.2.1 (q j) (hC.qlt hj)).1
      have hn := hC.n24
      by_cases h2 : F (q j) 0 ≠ 0
      · skip
        rw [if_pos h2]
        rw [← hk0, ← ej] at hk
        rw [if_neg h2] at hk
        subst hk
        refine Ev.if_eq (pc := 81) (n := (0, 0)) (tgt := 90) dX5_refusal_81 rfl (fun hc => absurd hc (by decide)) (fun hc => ?_)
        refine Ev.gsR (pc := 84) (n := (0, 0)) (i := 0) dX5_refusal_84 (by decide) (zgw_in (List.mem_of_getElem? (i := 421) (by decide +kernel)) rfl) ?_
        refine Ev.goto (pc := 87) (n := (0, 0)) (tgt := 93) dX5_refusal_87 rfl ?_
        exact Ev.aret dX5_refusal_93 rfl rfl ⟨(Nat.le_of_ble_eq_true rfl), (Nat.le_of_ble_eq_true rfl)⟩
      · skip
        rw [if_neg h2]
        rw [← hk0, ← ej] at hk
        rw [if_pos (by omega)] at hk
        subst hk
        refine Ev.if_eq (pc := 81) (n := (0, 0)) (tgt := 90) dX5_refusal_81 rfl (fun hc => ?_) (fun hc => absurd rfl hc)
        refine Ev.gsR (pc := 90) (n := (0, 0)) (i := 3) dX5_refusal_90 (by decide) (zgw_in (List.mem_of_getElem? (i := 459) (by decide +kernel)) rfl) ?_
        exact Ev.aret dX5_refusal_93 rfl rfl ⟨(Nat.le_of_ble_eq_true rfl), (Nat.le_of_ble_eq_true rfl)⟩
    · skip
      rw [if_neg h1]
      exact absurd trivial h1
theorem s_refusal7 {h : zH} {T n : Nat} {F : zF} {ad dl : Int} {ar q : Nat → Nat} (hC : CT h T n F ad dl ar q) {dep : Nat → Nat} {B : Int} (hw : WF n F dep B) (hB : 24 * (60 + B) ≤ 1000000000) {len st sl dp : Int → Int} (hl : IsLen n F len) (ht : IsTm n F len st sl dp) (hP : PLN h n F len st sl dp ar q) {a b c w : Int} (hw9 : IsWhy n F 8 a b c w) : Ev M_X5_refusal 0 [(0, zr (some T)), (1, zr (some (4096 + 7))), (2, zi a), (3, zi b), (4, zi c)] [] h (0, 0) (.inl (some (zr (some (4104 + w.toNat)))), h) := by
  have hk := hw9.k8
  refine Ev.aload_n (pc := 0) (n := (0, 0)) (i := 1) dX5_refusal_0 rfl rfl ?_
  refine Ev.gsC (pc := 1) (n := (0, 0)) (i := 7) dX5_refusal_1 (by decide) (zgw_in (List.mem_of_getElem? (i := 418) (by decide +kernel)) rfl) ?_
  refine Ev.acmp_ne (pc := 4) (n := (0, 0)) (tgt := 28) dX5_refusal_4 rfl (Or.inr (Or.inl ⟨7, 7, by decide, by decide, rfl, rfl⟩)) (fun hc => absurd rfl hc) (fun hc => ?_)
  refine Ev.iload_n (pc := 7) (n := (0, 0)) (i := 2) dX5_refusal_7 rfl rfl ?_
  refine Ev.iconst (pc := 8) (n := (0, 0)) dX5_refusal_8 ?_
  refine Ev.sipush (pc := 9) (n := (0, 0)) dX5_refusal_9 ?_
  refine Ev.callSN (pc := 12) (n := (0, 0)) (as := [zi a, zi 0, zi 999]) (st := []) (s_isBetween h a 0 999) dX5_refusal_12 ok_X6_isBetween (lk_X5_113 rfl) ⟨(Nat.le_of_ble_eq_true rfl), (Nat.le_of_ble_eq_true rfl)⟩ rfl (Nat.le_of_ble_eq_true rfl) (Nat.le_of_ble_eq_true rfl) ⟨(Nat.le_of_ble_eq_true rfl), (Nat.le_of_ble_eq_true rfl)⟩ ?_
  unfold wUnt at hk
  by_cases h1 : 0 ≤ a ∧ a ≤ 999
  · skip
    rw [if_pos h1] at hk ⊢
    subst hk
    refine Ev.if_eq (pc := 15) (n := (0, 0)) (tgt := 24) dX5_refusal_15 rfl (fun hc => absurd hc (by decide)) (fun hc => ?_)
    refine Ev.gsR (pc := 18) (n := (0, 0)) (i := 0) dX5_refusal_18 (by decide) (zgw_in (List.mem_of_getElem? (i := 421) (by decide +kernel)) rfl) ?_
    refine Ev.goto (pc := 21) (n := (0, 0)) (tgt := 27) dX5_refusal_21 rfl ?_
    exact Ev.aret dX5_refusal_27 rfl rfl ⟨(Nat.le_of_ble_eq_true rfl), (Nat.le_of_ble_eq_true rfl)⟩
  · skip
    rw [if_neg h1] at hk ⊢
    subst hk
    refine Ev.if_eq (pc := 15) (n := (0, 0)) (tgt := 24) dX5_refusal_15 rfl (fun hc => ?_) (fun hc => absurd rfl hc)
    refine Ev.gsR (pc := 24) (n := (0, 0)) (i := 2) dX5_refusal_24 (by decide) (zgw_in (List.mem_of_getElem? (i := 423) (by decide +kernel)) rfl) ?_
    exact Ev.aret dX5_refusal_27 rfl rfl ⟨(Nat.le_of_ble_eq_true rfl), (Nat.le_of_ble_eq_true rfl)⟩
