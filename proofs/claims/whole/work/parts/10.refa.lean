abbrev rf (h : zH) (k w : Int) : Int := h.2.1 261 (3 + 7 * k + w)
theorem s_in (h : zH) (v lo hi : Int) : Ev M_X7_in 0 [(0, zi v), (1, zi lo), (2, zi hi)] [] h (0, 0) (.inl (some (zi (if lo ≤ v ∧ v ≤ hi then 1 else 0))), h) := by
  refine Ev.iload_n (pc := 0) (n := (0, 0)) (i := 0) dX7_in_0 rfl rfl ?_
  refine Ev.iload_n (pc := 1) (n := (0, 0)) (i := 1) dX7_in_1 rfl rfl ?_
  refine Ev.icmp_lt (pc := 2) (n := (0, 0)) (tgt := 14) dX7_in_2 rfl (fun hc => ?_) (fun hc => ?_)
  · skip
    refine Ev.iconst (pc := 14) (n := (0, 0)) dX7_in_14 ?_
    rw [if_neg (by omega)]
    exact Ev.bret dX7_in_15 rfl (by decide) ⟨(Nat.le_of_ble_eq_true rfl), (Nat.le_of_ble_eq_true rfl)⟩
  · skip
    refine Ev.iload_n (pc := 5) (n := (0, 0)) (i := 0) dX7_in_5 rfl rfl ?_
    refine Ev.iload_n (pc := 6) (n := (0, 0)) (i := 2) dX7_in_6 rfl rfl ?_
    refine Ev.icmp_gt (pc := 7) (n := (0, 0)) (tgt := 14) dX7_in_7 rfl (fun hc2 => ?_) (fun hc2 => ?_)
    · skip
      refine Ev.iconst (pc := 14) (n := (0, 0)) dX7_in_14 ?_
      rw [if_neg (by omega)]
      exact Ev.bret dX7_in_15 rfl (by decide) ⟨(Nat.le_of_ble_eq_true rfl), (Nat.le_of_ble_eq_true rfl)⟩
    · skip
      refine Ev.iconst (pc := 10) (n := (0, 0)) dX7_in_10 ?_
      refine Ev.goto (pc := 11) (n := (0, 0)) (tgt := 15) dX7_in_11 rfl ?_
      rw [if_pos (by omega)]
      exact Ev.bret dX7_in_15 rfl (by decide) ⟨(Nat.le_of_ble_eq_true rfl), (Nat.le_of_ble_eq_true rfl)⟩
theorem s_of {h : zH} (hR : zRM h) {k w : Int} (hk : 0 ≤ k ∧ k < 24) (hw : 0 ≤ w ∧ w < 7) : Ev M_X7_of 0 [(0, zr (some 260)), (1, zi k), (2, zi w)] [] h (0, 0) (.inl (some (zi (rf h k w))), h) := by
  refine Ev.aload_n (pc := 0) (n := (0, 0)) (i := 0) dX7_of_0 rfl rfl ?_
  refine Ev.gR (pc := 1) (n := (0, 0)) (r := (some 261)) dX7_of_1 fl_X7_7 (zk_at hR.1 rfl) rfl hR.2.1 ?_
  refine Ev.iconst (pc := 4) (n := (0, 0)) dX7_of_4 ?_
  refine Ev.bipush (pc := 5) (n := (0, 0)) dX7_of_5 ?_
  refine Ev.iload_n (pc := 7) (n := (0, 0)) (i := 1) dX7_of_7 rfl rfl ?_
  refine Ev.imul (pc := 8) (n := (0, 0)) dX7_of_8 ⟨by omega, by omega⟩ ?_
  refine Ev.iadd (pc := 9) (n := (0, 0)) dX7_of_9 ⟨by omega, by omega⟩ ?_
  refine Ev.iload_n (pc := 10) (n := (0, 0)) (i := 2) dX7_of_10 rfl rfl ?_
  refine Ev.iadd (pc := 11) (n := (0, 0)) dX7_of_11 ⟨by omega, by omega⟩ ?_
  refine Ev.ia (pc := 12) (n := (0, 0)) (x := (h).2.1 261 ((3 + (7 * k)) + w)) dX7_of_12 (zk_at hR.1 rfl) (by omega) (by omega) rfl ?_
  exact Ev.iret dX7_of_13 rfl ⟨(Nat.le_of_ble_eq_true rfl), (Nat.le_of_ble_eq_true rfl)⟩
theorem s_set {h : zH} (hR : zRM h) {k w v : Int} (hk : 0 ≤ k ∧ k < 24) (hw : 0 ≤ w ∧ w < 7) : Ev M_X7_set 0 [(0, zr (some 260)), (1, zi k), (2, zi w), (3, zi v)] [] h (0, 0) (.inl none, (h.1, zup h.2.1 261 (3 + 7 * k + w) v, h.2.2)) := by
  refine Ev.aload_n (pc := 0) (n := (0, 0)) (i := 0) dX7_set_0 rfl rfl ?_
  refine Ev.gR (pc := 1) (n := (0, 0)) (r := (some 261)) dX7_set_1 fl_X7_7 (zk_at hR.1 rfl) rfl hR.2.1 ?_
  refine Ev.iconst (pc := 4) (n := (0, 0)) dX7_set_4 ?_
  refine Ev.bipush (pc := 5) (n := (0, 0)) dX7_set_5 ?_
  refine Ev.iload_n (pc := 7) (n := (0, 0)) (i := 1) dX7_set_7 rfl rfl ?_
  refine Ev.imul (pc := 8) (n := (0, 0)) dX7_set_8 ⟨by omega, by omega⟩ ?_
  refine Ev.iadd (pc := 9) (n := (0, 0)) dX7_set_9 ⟨by omega, by omega⟩ ?_
  refine Ev.iload_n (pc := 10) (n := (0, 0)) (i := 2) dX7_set_10 rfl rfl ?_
  refine Ev.iadd (pc := 11) (n := (0, 0)) dX7_set_11 ⟨by omega, by omega⟩ ?_
  refine Ev.iload_n (pc := 12) (n := (0, 0)) (i := 3) dX7_set_12 rfl rfl ?_
  refine Ev.iast (pc := 13) (n := (0, 0)) dX7_set_13 (zk_at hR.1 rfl) (by omega) (by omega) ?_
  exact Ev.vret dX7_set_14 rfl ⟨(Nat.le_of_ble_eq_true rfl), (Nat.le_of_ble_eq_true rfl)⟩
/-- the places of the present state -/
theorem s_find_loop {h : zH} (hR : zRM h) {n : Nat} {x : Int} (hn : h.2.1 261 0 = n) (hn24 : n ≤ 24) : ∀ (j k : Nat), k ≤ n → n - k = j → zfnd (fun j => rf h j 0) x k = -1 → Ev M_X7_find 2 [(0, zr (some 260)), (1, zi x), (2, zi (k : Int))] [] h (0, 0) (.inl (some (zi (zfnd (fun j => rf h j 0) x n))), h) := by
  intro j
  induction j with
  | zero =>
    intro k hk hj he
    have hkn : k = n := by omega
    subst hkn
    refine Ev.iload_n (pc := 2) (n := (0, 0)) (i := 2) dX7_find_2 rfl rfl ?_
    refine Ev.aload_n (pc := 3) (n := (0, 0)) (i := 0) dX7_find_3 rfl rfl ?_
    refine Ev.gR (pc := 4) (n := (0, 0)) (r := (some 261)) dX7_find_4 fl_X7_7 (zk_at hR.1 rfl) rfl hR.2.1 ?_
    refine Ev.iconst (pc := 7) (n := (0, 0)) dX7_find_7 ?_
    refine Ev.ia (pc := 8) (n := (0, 0)) (x := k) dX7_find_8 (zk_at hR.1 rfl) (by omega) (by omega) hn ?_
    refine Ev.icmp_ge (pc := 9) (n := (0, 0)) (tgt := 30) dX7_find_9 rfl (fun hc => ?_) (fun hc => absurd hc (by omega))
    refine Ev.iconst (pc := 30) (n := (0, 0)) dX7_find_30 ?_
    rw [he]
    exact Ev.iret dX7_find_31 rfl ⟨(Nat.le_of_ble_eq_true rfl), (Nat.le_of_ble_eq_true rfl)⟩
  | succ j ih0 =>
    intro k hk hj he
    have ih := fun (k2 : Nat) (a : k2 ≤ n) (b : n - k2 = j) (c : zfnd (fun j => rf h j 0) x k2 = -1) => ih0 k2 a b c
    refine Ev.iload_n (pc := 2) (n := (0, 0)) (i := 2) dX7_find_2 rfl rfl ?_
    refine Ev.aload_n (pc := 3) (n := (0, 0)) (i := 0) dX7_find_3 rfl rfl ?_
    refine Ev.gR (pc := 4) (n := (0, 0)) (r := (some 261)) dX7_find_4 fl_X7_7 (zk_at hR.1 rfl) rfl hR.2.1 ?_
    refine Ev.iconst (pc := 7) (n := (0, 0)) dX7_find_7 ?_
    refine Ev.ia (pc := 8) (n := (0, 0)) (x := n) dX7_find_8 (zk_at hR.1 rfl) (by omega) (by omega) hn ?_
    refine Ev.icmp_ge (pc := 9) (n := (0, 0)) (tgt := 30) dX7_find_9 rfl (fun hc => ?_) (fun hc => ?_)
    · skip
      have hkn : k = n := by omega
      rw [hkn] at he
      rw [he]
      refine Ev.iconst (pc := 30) (n := (0, 0)) dX7_find_30 ?_
      exact Ev.iret dX7_find_31 rfl ⟨(Nat.le_of_ble_eq_true rfl), (Nat.le_of_ble_eq_true rfl)⟩
    · skip
      refine Ev.aload_n (pc := 12) (n := (0, 0)) (i := 0) dX7_find_12 rfl rfl ?_
      refine Ev.iload_n (pc := 13) (n := (0, 0)) (i := 2) dX7_find_13 rfl rfl ?_
      refine Ev.iconst (pc := 14) (n := (0, 0)) dX7_find_14 ?_
      refine Ev.callV (pc := 15) (n := (0, 0)) (ob := 260) (as := [zi (k : Int), zi 0]) (st := []) (s_of (h := h) hR ⟨by omega, by omega⟩ ⟨by decide, by decide⟩) dX7_find_15 ok_X7_of (lk_X7_49 rfl) ⟨(Nat.le_of_ble_eq_true rfl), (Nat.le_of_ble_eq_true rfl)⟩ (zk_at hR.1 rfl) ⟨by decide, rfl⟩ rfl (Nat.le_of_ble_eq_true rfl) (Nat.le_of_ble_eq_true rfl) ⟨(Nat.le_of_ble_eq_true rfl), (Nat.le_of_ble_eq_true rfl)⟩ ?_
      refine Ev.iload_n (pc := 18) (n := (0, 0)) (i := 1) dX7_find_18 rfl rfl ?_
      refine Ev.icmp_ne (pc := 19) (n := (0, 0)) (tgt := 24) dX7_find_19 rfl (fun hc2 => ?_) (fun hc2 => ?_)
      · skip
        refine Ev.iinc (pc := 24) (n := (0, 0)) (L' := [(2, zi ((k : Int) + 1)), (0, zr (some 260)), (1, zi x)]) dX7_find_24 rfl (Nat.le_of_ble_eq_true rfl) ⟨by omega, by omega⟩ rfl ?_
        refine Ev.goto (pc := 27) (n := (0, 0)) (tgt := 2) dX7_find_27 rfl ?_
        refine Ev.perm [1, 2, 0] rfl ?_
        have e1 : zfnd (fun j => rf h j 0) x (k + 1) = -1 := by
          show (if 0 ≤ zfnd (fun j => rf h j 0) x k then zfnd (fun j => rf h j 0) x k else if rf h k 0 = x then (k : Int) else -1) = -1
          rw [he, if_neg (by omega), if_neg hc2]
        exact ih (k + 1) (by omega) (by omega) e1
      · skip
        refine Ev.iload_n (pc := 22) (n := (0, 0)) (i := 2) dX7_find_22 rfl rfl ?_
        have e1 : zfnd (fun j => rf h j 0) x n = k := by
          refine zfnd_at (by omega) hc2 (fun j hj => ?_)
          rcases zfnd_cases (fun j => rf h j 0) x k with ⟨-, ha⟩ | ⟨j2, hj2, e2, -⟩
          · exact ha j hj
          · omega
        rw [e1]
        exact Ev.iret dX7_find_23 rfl ⟨(Nat.le_of_ble_eq_true rfl), (Nat.le_of_ble_eq_true rfl)⟩
theorem s_find {h : zH} (hR : zRM h) {n : Nat} {x : Int} (hn : h.2.1 261 0 = n) (hn24 : n ≤ 24) : Ev M_X7_find 0 [(0, zr (some 260)), (1, zi x)] [] h (0, 0) (.inl (some (zi (zfnd (fun j => rf h j 0) x n))), h) := by
  refine Ev.iconst (pc := 0) (n := (0, 0)) dX7_find_0 ?_
  refine Ev.istore_n (pc := 1) (n := (0, 0)) (i := 2) (L' := [(2, zi 0), (0, zr (some 260)), (1, zi x)]) dX7_find_1 rfl (Nat.le_of_ble_eq_true rfl) rfl ?_
  refine Ev.perm [1, 2, 0] rfl ?_
  exact s_find_loop hR hn hn24 n 0 (by omega) (by omega) rfl
theorem s_isTask {h : zH} (hR : zRM h) {n k : Nat} {x : Int} (hn : h.2.1 261 0 = n) (hn24 : n ≤ 24) (hk : k < n) (hf : zfnd (fun j => rf h j 0) x n = k) : Ev M_X7_isTask 0 [(0, zr (some 260)), (1, zi x)] [] h (0, 0) (.inl (some (zi (if rf h k 1 = 1 then 1 else 0))), h) := by
  refine Ev.aload_n (pc := 0) (n := (0, 0)) (i := 0) dX7_isTask_0 rfl rfl ?_
  refine Ev.aload_n (pc := 1) (n := (0, 0)) (i := 0) dX7_isTask_1 rfl rfl ?_
  refine Ev.iload_n (pc := 2) (n := (0, 0)) (i := 1) dX7_isTask_2 rfl rfl ?_
  refine Ev.callV (pc := 3) (n := (0, 0)) (ob := 260) (as := [zi x]) (st := [zr (some 260)]) (s_find hR hn hn24) dX7_isTask_3 ok_X7_find (lk_X7_53 rfl) ⟨(Nat.le_of_ble_eq_true rfl), (Nat.le_of_ble_eq_true rfl)⟩ (zk_at hR.1 rfl) ⟨by decide, rfl⟩ rfl (Nat.le_of_ble_eq_true rfl) (Nat.le_of_ble_eq_true rfl) ⟨(Nat.le_of_ble_eq_true rfl), (Nat.le_of_ble_eq_true rfl)⟩ ?_
  rw [hf]
  refine Ev.iconst (pc := 6) (n := (0, 0)) dX7_isTask_6 ?_
  refine Ev.callV (pc := 7) (n := (0, 0)) (ob := 260) (as := [zi (k : Int), zi 1]) (st := []) (s_of (h := h) hR ⟨by omega, by omega⟩ ⟨by decide, by decide⟩) dX7_isTask_7 ok_X7_of (lk_X7_49 rfl) ⟨(Nat.le_of_ble_eq_true rfl), (Nat.le_of_ble_eq_true rfl)⟩ (zk_at hR.1 rfl) ⟨by decide, rfl⟩ rfl (Nat.le_of_ble_eq_true rfl) (Nat.le_of_ble_eq_true rfl) ⟨(Nat.le_of_ble_eq_true rfl), (Nat.le_of_ble_eq_true rfl)⟩ ?_
  refine Ev.iconst (pc := 10) (n := (0, 0)) dX7_isTask_10 ?_
  refine Ev.icmp_ne (pc := 11) (n := (0, 0)) (tgt := 18) dX7_isTask_11 rfl (fun hc => ?_) (fun hc => ?_)
  · skip
    refine Ev.iconst (pc := 18) (n := (0, 0)) dX7_isTask_18 ?_
    rw [if_neg hc]
    exact Ev.bret dX7_isTask_19 rfl (by decide) ⟨(Nat.le_of_ble_eq_true rfl), (Nat.le_of_ble_eq_true rfl)⟩
  · skip
    refine Ev.iconst (pc := 14) (n := (0, 0)) dX7_isTask_14 ?_
    refine Ev.goto (pc := 15) (n := (0, 0)) (tgt := 19) dX7_isTask_15 rfl ?_
    rw [if_pos hc]
    exact Ev.bret dX7_isTask_19 rfl (by decide) ⟨(Nat.le_of_ble_eq_true rfl), (Nat.le_of_ble_eq_true rfl)⟩
theorem s_thrown {h : zH} (hR : zRM h) : Ev M_X7_thrown 0 [(0, zr (some 260))] [] h (0, 0) (.inl (some (zi (h.2.1 260 2))), h) := by
  refine Ev.aload_n (pc := 0) (n := (0, 0)) (i := 0) dX7_thrown_0 rfl rfl ?_
  refine Ev.gI (pc := 1) (n := (0, 0)) (x := (h).2.1 260 2) dX7_thrown_1 fl_X7_57 (zk_at hR.1 rfl) rfl rfl ?_
  exact Ev.iret dX7_thrown_4 rfl ⟨(Nat.le_of_ble_eq_true rfl), (Nat.le_of_ble_eq_true rfl)⟩
theorem s_isRefused {h : zH} (hR : zRM h) (w : Int) : Ev M_X7_isRefused 0 [(0, zr (some 260)), (1, zi w)] [] h (0, 0) (.inl (some (zi (if w = 0 then 0 else 1))), (h.1, zup h.2.1 260 2 w, h.2.2)) := by
  refine Ev.aload_n (pc := 0) (n := (0, 0)) (i := 0) dX7_isRefused_0 rfl rfl ?_
  refine Ev.iload_n (pc := 1) (n := (0, 0)) (i := 1) dX7_isRefused_1 rfl rfl ?_
  refine Ev.putI (pc := 2) (n := (0, 0)) dX7_isRefused_2 fl_X7_57 (zk_at hR.1 rfl) rfl rfl (fun h9 => by cases h9) ?_
  refine Ev.iload_n (pc := 5) (n := (0, 0)) (i := 1) dX7_isRefused_5 rfl rfl ?_
  refine Ev.if_eq (pc := 6) (n := (0, 0)) (tgt := 13) dX7_isRefused_6 rfl (fun hc => ?_) (fun hc => ?_)
  · skip
    refine Ev.iconst (pc := 13) (n := (0, 0)) dX7_isRefused_13 ?_
    rw [if_pos hc]
    exact Ev.bret dX7_isRefused_14 rfl (by decide) ⟨(Nat.le_of_ble_eq_true rfl), (Nat.le_of_ble_eq_true rfl)⟩
  · skip
    refine Ev.iconst (pc := 9) (n := (0, 0)) dX7_isRefused_9 ?_
    refine Ev.goto (pc := 10) (n := (0, 0)) (tgt := 14) dX7_isRefused_10 rfl ?_
    rw [if_neg hc]
    exact Ev.bret dX7_isRefused_14 rfl (by decide) ⟨(Nat.le_of_ble_eq_true rfl), (Nat.le_of_ble_eq_true rfl)⟩
theorem s_isBarred {h : zH} (hR : zRM h) (w : Int) : Ev M_X7_isBarred 0 [(0, zr (some 260)), (1, zi w)] [] h (0, 0) (.inl (some (zi (if (if w = 3 then 2 else w) = 0 then 0 else 1))), (h.1, zup h.2.1 260 2 (if w = 3 then 2 else w), h.2.2)) := by
  refine Ev.aload_n (pc := 0) (n := (0, 0)) (i := 0) dX7_isBarred_0 rfl rfl ?_
  refine Ev.iload_n (pc := 1) (n := (0, 0)) (i := 1) dX7_isBarred_1 rfl rfl ?_
  refine Ev.iconst (pc := 2) (n := (0, 0)) dX7_isBarred_2 ?_
  refine Ev.icmp_ne (pc := 3) (n := (0, 0)) (tgt := 10) dX7_isBarred_3 rfl (fun hc => ?_) (fun hc => ?_)
  · skip
    refine Ev.iload_n (pc := 10) (n := (0, 0)) (i := 1) dX7_isBarred_10 rfl rfl ?_
    refine Ev.callV (pc := 11) (n := (0, 0)) (ob := 260) (as := [zi w]) (st := []) (s_isRefused hR w) dX7_isBarred_11 ok_X7_isRefused (lk_X7_60 rfl) ⟨(Nat.le_of_ble_eq_true rfl), (Nat.le_of_ble_eq_true rfl)⟩ (zk_at hR.1 rfl) ⟨by decide, rfl⟩ rfl (Nat.le_of_ble_eq_true rfl) (Nat.le_of_ble_eq_true rfl) ⟨(Nat.le_of_ble_eq_true rfl), (Nat.le_of_ble_eq_true rfl)⟩ ?_
    rw [if_neg hc]
    exact Ev.bret dX7_isBarred_14 rfl (by split <;> decide) ⟨(Nat.le_of_ble_eq_true rfl), (Nat.le_of_ble_eq_true rfl)⟩
  · skip
    refine Ev.iconst (pc := 6) (n := (0, 0)) dX7_isBarred_6 ?_
    refine Ev.goto (pc := 7) (n := (0, 0)) (tgt := 11) dX7_isBarred_7 rfl ?_
    refine Ev.callV (pc := 11) (n := (0, 0)) (ob := 260) (as := [zi 2]) (st := []) (s_isRefused hR 2) dX7_isBarred_11 ok_X7_isRefused (lk_X7_60 rfl) ⟨(Nat.le_of_ble_eq_true rfl), (Nat.le_of_ble_eq_true rfl)⟩ (zk_at hR.1 rfl) ⟨by decide, rfl⟩ rfl (Nat.le_of_ble_eq_true rfl) (Nat.le_of_ble_eq_true rfl) ⟨(Nat.le_of_ble_eq_true rfl), (Nat.le_of_ble_eq_true rfl)⟩ ?_
    rw [if_pos hc]
    exact Ev.bret dX7_isBarred_14 rfl (by split <;> decide) ⟨(Nat.le_of_ble_eq_true rfl), (Nat.le_of_ble_eq_true rfl)⟩
theorem s_isIn {h : zH} (hR : zRM h) {k gr r : Int} (hk : 0 ≤ k ∧ k < 24) : Ev M_X7_isIn 0 [(0, zr (some 260)), (1, zi k), (2, zi gr), (3, zi r)] [] h (0, 0) (.inl (some (zi (if rf h k 2 = gr ∧ rf h k 3 = r then 1 else 0))), h) := by
  refine Ev.aload_n (pc := 0) (n := (0, 0)) (i := 0) dX7_isIn_0 rfl rfl ?_
  refine Ev.iload_n (pc := 1) (n := (0, 0)) (i := 1) dX7_isIn_1 rfl rfl ?_
  refine Ev.iconst (pc := 2) (n := (0, 0)) dX7_isIn_2 ?_
  refine Ev.callV (pc := 3) (n := (0, 0)) (ob := 260) (as := [zi k, zi 2]) (st := []) (s_of (h := h) hR ⟨by omega, by omega⟩ ⟨by decide, by decide⟩) dX7_isIn_3 ok_X7_of (lk_X7_49 rfl) ⟨(Nat.le_of_ble_eq_true rfl), (Nat.le_of_ble_eq_true rfl)⟩ (zk_at hR.1 rfl) ⟨by decide, rfl⟩ rfl (Nat.le_of_ble_eq_true rfl) (Nat.le_of_ble_eq_true rfl) ⟨(Nat.le_of_ble_eq_true rfl), (Nat.le_of_ble_eq_true rfl)⟩ ?_
  refine Ev.iload_n (pc := 6) (n := (0, 0)) (i := 2) dX7_isIn_6 rfl rfl ?_
  refine Ev.icmp_ne (pc := 7) (n := (0, 0)) (tgt := 24) dX7_isIn_7 rfl (fun hc => ?_) (fun hc => ?_)
  · skip
    refine Ev.iconst (pc := 24) (n := (0, 0)) dX7_isIn_24 ?_
    rw [if_neg (fun e => hc e.1)]
    exact Ev.bret dX7_isIn_25 rfl (by decide) ⟨(Nat.le_of_ble_eq_true rfl), (Nat.le_of_ble_eq_true rfl)⟩
  · skip
    refine Ev.aload_n (pc := 10) (n := (0, 0)) (i := 0) dX7_isIn_10 rfl rfl ?_
    refine Ev.iload_n (pc := 11) (n := (0, 0)) (i := 1) dX7_isIn_11 rfl rfl ?_
    refine Ev.iconst (pc := 12) (n := (0, 0)) dX7_isIn_12 ?_
    refine Ev.callV (pc := 13) (n := (0, 0)) (ob := 260) (as := [zi k, zi 3]) (st := []) (s_of (h := h) hR ⟨by omega, by omega⟩ ⟨by decide, by decide⟩) dX7_isIn_13 ok_X7_of (lk_X7_49 rfl) ⟨(Nat.le_of_ble_eq_true rfl), (Nat.le_of_ble_eq_true rfl)⟩ (zk_at hR.1 rfl) ⟨by decide, rfl⟩ rfl (Nat.le_of_ble_eq_true rfl) (Nat.le_of_ble_eq_true rfl) ⟨(Nat.le_of_ble_eq_true rfl), (Nat.le_of_ble_eq_true rfl)⟩ ?_
    refine Ev.iload_n (pc := 16) (n := (0, 0)) (i := 3) dX7_isIn_16 rfl rfl ?_
    refine Ev.icmp_ne (pc := 17) (n := (0, 0)) (tgt := 24) dX7_isIn_17 rfl (fun hc2 => ?_) (fun hc2 => ?_)
    · skip
      refine Ev.iconst (pc := 24) (n := (0, 0)) dX7_isIn_24 ?_
      rw [if_neg (fun e => hc2 e.2)]
      exact Ev.bret dX7_isIn_25 rfl (by decide) ⟨(Nat.le_of_ble_eq_true rfl), (Nat.le_of_ble_eq_true rfl)⟩
    · skip
      refine Ev.iconst (pc := 20) (n := (0, 0)) dX7_isIn_20 ?_
      refine Ev.goto (pc := 21) (n := (0, 0)) (tgt := 25) dX7_isIn_21 rfl ?_
      rw [if_pos ⟨hc, hc2⟩]
      exact Ev.bret dX7_isIn_25 rfl (by decide) ⟨(Nat.le_of_ble_eq_true rfl), (Nat.le_of_ble_eq_true rfl)⟩
theorem s_rowLength_loop {h : zH} (hR : zRM h) {n : Nat} {gr r : Int} (hn : h.2.1 261 0 = n) (hn24 : n ≤ 24) (hs : ∀ m : Nat, m ≤ n → -1000000000 ≤ zsum (fun j => if rf h j 2 = gr ∧ rf h j 3 = r then h.2.1 263 j else 0) m ∧ zsum (fun j => if rf h j 2 = gr ∧ rf h j 3 = r then h.2.1 263 j else 0) m ≤ 1000000000) : ∀ (j k : Nat), k ≤ n → n - k = j → Ev M_X7_rowLength 5 [(0, zr (some 260)), (1, zi gr), (2, zi r), (3, zi (zsum (fun j => if rf h j 2 = gr ∧ rf h j 3 = r then h.2.1 263 j else 0) k)), (4, zi (k : Int))] [] h (0, 0) (.inl (some (zi (zsum (fun j => if rf h j 2 = gr ∧ rf h j 3 = r then h.2.1 263 j else 0) n))), h) := by
  intro j
  induction j with
  | zero =>
    intro k hk hj
    have hkn : k = n := by omega
    subst hkn
    refine Ev.iload (pc := 5) (n := (0, 0)) dX7_rowLength_5 rfl ?_
    refine Ev.aload_n (pc := 7) (n := (0, 0)) (i := 0) dX7_rowLength_7 rfl rfl ?_
    refine Ev.gR (pc := 8) (n := (0, 0)) (r := (some 261)) dX7_rowLength_8 fl_X7_7 (zk_at hR.1 rfl) rfl hR.2.1 ?_
    refine Ev.iconst (pc := 11) (n := (0, 0)) dX7_rowLength_11 ?_
    refine Ev.ia (pc := 12) (n := (0, 0)) (x := k) dX7_rowLength_12 (zk_at hR.1 rfl) (by omega) (by omega) hn ?_
    refine Ev.icmp_ge (pc := 13) (n := (0, 0)) (tgt := 47) dX7_rowLength_13 rfl (fun hc => ?_) (fun hc => absurd hc (by omega))
    refine Ev.iload_n (pc := 47) (n := (0, 0)) (i := 3) dX7_rowLength_47 rfl rfl ?_
    exact Ev.iret dX7_rowLength_48 rfl ⟨(Nat.le_of_ble_eq_true rfl), (Nat.le_of_ble_eq_true rfl)⟩
  | succ j ih =>
    intro k hk hj
    refine Ev.iload (pc := 5) (n := (0, 0)) dX7_rowLength_5 rfl ?_
    refine Ev.aload_n (pc := 7) (n := (0, 0)) (i := 0) dX7_rowLength_7 rfl rfl ?_
    refine Ev.gR (pc := 8) (n := (0, 0)) (r := (some 261)) dX7_rowLength_8 fl_X7_7 (zk_at hR.1 rfl) rfl hR.2.1 ?_
    refine Ev.iconst (pc := 11) (n := (0, 0)) dX7_rowLength_11 ?_
    refine Ev.ia (pc := 12) (n := (0, 0)) (x := n) dX7_rowLength_12 (zk_at hR.1 rfl) (by omega) (by omega) hn ?_
    refine Ev.icmp_ge (pc := 13) (n := (0, 0)) (tgt := 47) dX7_rowLength_13 rfl (fun hc => absurd hc (by omega)) (fun hc => ?_)
    have hs1 := hs k (by omega)
    have hs2 := hs (k + 1) (by omega)
    have ez : zsum (fun j => if rf h j 2 = gr ∧ rf h j 3 = r then h.2.1 263 j else 0) (k + 1) = zsum (fun j => if rf h j 2 = gr ∧ rf h j 3 = r then h.2.1 263 j else 0) k + (if rf h k 2 = gr ∧ rf h k 3 = r then h.2.1 263 k else 0) := rfl
    refine Ev.iload_n (pc := 16) (n := (0, 0)) (i := 3) dX7_rowLength_16 rfl rfl ?_
    refine Ev.aload_n (pc := 17) (n := (0, 0)) (i := 0) dX7_rowLength_17 rfl rfl ?_
    refine Ev.iload (pc := 18) (n := (0, 0)) dX7_rowLength_18 rfl ?_
    refine Ev.iload_n (pc := 20) (n := (0, 0)) (i := 1) dX7_rowLength_20 rfl rfl ?_
    refine Ev.iload_n (pc := 21) (n := (0, 0)) (i := 2) dX7_rowLength_21 rfl rfl ?_
    refine Ev.callV (pc := 22) (n := (0, 0)) (ob := 260) (as := [zi (k : Int), zi gr, zi r]) (st := [zi (zsum (fun j => if rf h j 2 = gr ∧ rf h j 3 = r then h.2.1 263 j else 0) k)]) (s_isIn hR ⟨by omega, by omega⟩) dX7_rowLength_22 ok_X7_isIn (lk_X7_64 rfl) ⟨(Nat.le_of_ble_eq_true rfl), (Nat.le_of_ble_eq_true rfl)⟩ (zk_at hR.1 rfl) ⟨by decide, rfl⟩ rfl (Nat.le_of_ble_eq_true rfl) (Nat.le_of_ble_eq_true rfl) ⟨(Nat.le_of_ble_eq_true rfl), (Nat.le_of_ble_eq_true rfl)⟩ ?_
    by_cases hin : rf h k 2 = gr ∧ rf h k 3 = r
    · skip
      rw [if_pos hin] at ez ⊢
      refine Ev.if_eq (pc := 25) (n := (0, 0)) (tgt := 38) dX7_rowLength_25 rfl (fun hc => absurd hc (by decide)) (fun hc => ?_)
      refine Ev.aload_n (pc := 28) (n := (0, 0)) (i := 0) dX7_rowLength_28 rfl rfl ?_
      refine Ev.gR (pc := 29) (n := (0, 0)) (r := (some 263)) dX7_rowLength_29 fl_X7_16 (zk_at hR.1 rfl) rfl hR.2.2.2.1 ?_
      refine Ev.iload (pc := 32) (n := (0, 0)) dX7_rowLength_32 rfl ?_
      refine Ev.ia (pc := 34) (n := (0, 0)) (x := (h).2.1 263 (k : Int)) dX7_rowLength_34 (zk_at hR.1 rfl) (by omega) (by omega) rfl ?_
      refine Ev.goto (pc := 35) (n := (0, 0)) (tgt := 39) dX7_rowLength_35 rfl ?_
      refine Ev.iadd (pc := 39) (n := (0, 0)) dX7_rowLength_39 ⟨by omega, by omega⟩ ?_
      refine Ev.istore_n (pc := 40) (n := (0, 0)) (i := 3) (L' := [(3, zi ((zsum (fun j => if rf h j 2 = gr ∧ rf h j 3 = r then h.2.1 263 j else 0) k) + ((h).2.1 263 (k : Int)))), (0, zr (some 260)), (1, zi gr), (2, zi r), (4, zi (k : Int))]) dX7_rowLength_40 rfl (Nat.le_of_ble_eq_true rfl) rfl ?_
      refine Ev.iinc (pc := 41) (n := (0, 0)) (L' := [(4, zi ((k : Int) + 1)), (3, zi ((zsum (fun j => if rf h j 2 = gr ∧ rf h j 3 = r then h.2.1 263 j else 0) k) + ((h).2.1 263 (k : Int)))), (0, zr (some 260)), (1, zi gr), (2, zi r)]) dX7_rowLength_41 rfl (Nat.le_of_ble_eq_true rfl) ⟨by omega, by omega⟩ rfl ?_
      refine Ev.goto (pc := 44) (n := (0, 0)) (tgt := 5) dX7_rowLength_44 rfl ?_
      refine Ev.perm [2, 3, 4, 1, 0] rfl ?_
      have k9 := ih (k + 1) (by omega) (by omega)
      rw [ez] at k9
      exact k9
    · skip
      rw [if_neg hin] at ez ⊢
      refine Ev.if_eq (pc := 25) (n := (0, 0)) (tgt := 38) dX7_rowLength_25 rfl (fun hc => ?_) (fun hc => absurd rfl hc)
      refine Ev.iconst (pc := 38) (n := (0, 0)) dX7_rowLength_38 ?_
      refine Ev.iadd (pc := 39) (n := (0, 0)) dX7_rowLength_39 ⟨by omega, by omega⟩ ?_
      refine Ev.istore_n (pc := 40) (n := (0, 0)) (i := 3) (L' := [(3, zi ((zsum (fun j => if rf h j 2 = gr ∧ rf h j 3 = r then h.2.1 263 j else 0) k) + 0)), (0, zr (some 260)), (1, zi gr), (2, zi r), (4, zi (k : Int))]) dX7_rowLength_40 rfl (Nat.le_of_ble_eq_true rfl) rfl ?_
      refine Ev.iinc (pc := 41) (n := (0, 0)) (L' := [(4, zi ((k : Int) + 1)), (3, zi ((zsum (fun j => if rf h j 2 = gr ∧ rf h j 3 = r then h.2.1 263 j else 0) k) + 0)), (0, zr (some 260)), (1, zi gr), (2, zi r)]) dX7_rowLength_41 rfl (Nat.le_of_ble_eq_true rfl) ⟨by omega, by omega⟩ rfl ?_
      refine Ev.goto (pc := 44) (n := (0, 0)) (tgt := 5) dX7_rowLength_44 rfl ?_
      refine Ev.perm [2, 3, 4, 1, 0] rfl ?_
      have k9 := ih (k + 1) (by omega) (by omega)
      rw [ez] at k9
      exact k9
theorem s_rowLength {h : zH} (hR : zRM h) {n : Nat} {gr r : Int} (hn : h.2.1 261 0 = n) (hn24 : n ≤ 24) (hs : ∀ m : Nat, m ≤ n → -1000000000 ≤ zsum (fun j => if rf h j 2 = gr ∧ rf h j 3 = r then h.2.1 263 j else 0) m ∧ zsum (fun j => if rf h j 2 = gr ∧ rf h j 3 = r then h.2.1 263 j else 0) m ≤ 1000000000) : Ev M_X7_rowLength 0 [(0, zr (some 260)), (1, zi gr), (2, zi r)] [] h (0, 0) (.inl (some (zi (zsum (fun j => if rf h j 2 = gr ∧ rf h j 3 = r then h.2.1 263 j else 0) n))), h) := by
  refine Ev.iconst (pc := 0) (n := (0, 0)) dX7_rowLength_0 ?_
  refine Ev.istore_n (pc := 1) (n := (0, 0)) (i := 3) (L' := [(3, zi 0), (0, zr (some 260)), (1, zi gr), (2, zi r)]) dX7_rowLength_1 rfl (Nat.le_of_ble_eq_true rfl) rfl ?_
  refine Ev.iconst (pc := 2) (n := (0, 0)) dX7_rowLength_2 ?_
  refine Ev.istore (pc := 3) (n := (0, 0)) (i := 4) (L' := [(4, zi 0), (3, zi 0), (0, zr (some 260)), (1, zi gr), (2, zi r)]) dX7_rowLength_3 (Nat.le_of_ble_eq_true rfl) rfl ?_
  refine Ev.perm [2, 3, 4, 1, 0] rfl ?_
  exact s_rowLength_loop hR hn hn24 hs n 0 (by omega) (by omega)
theorem s_childrenOf_loop {h : zH} (hR : zRM h) {n : Nat} {gr r : Int} (hn : h.2.1 261 0 = n) (hn24 : n ≤ 24) (hs : ∀ m : Nat, m ≤ n → -1000000000 ≤ zsum (fun j => if rf h j 2 = gr ∧ rf h j 3 = r then 1 else 0) m ∧ zsum (fun j => if rf h j 2 = gr ∧ rf h j 3 = r then 1 else 0) m ≤ 1000000000) : ∀ (j k : Nat), k ≤ n → n - k = j → Ev M_X7_childrenOf 5 [(0, zr (some 260)), (1, zi gr), (2, zi r), (3, zi (zsum (fun j => if rf h j 2 = gr ∧ rf h j 3 = r then 1 else 0) k)), (4, zi (k : Int))] [] h (0, 0) (.inl (some (zi (zsum (fun j => if rf h j 2 = gr ∧ rf h j 3 = r then 1 else 0) n))), h) := by
  intro j
  induction j with
  | zero =>
    intro k hk hj
    have hkn : k = n := by omega
    subst hkn
    refine Ev.iload (pc := 5) (n := (0, 0)) dX7_childrenOf_5 rfl ?_
    refine Ev.aload_n (pc := 7) (n := (0, 0)) (i := 0) dX7_childrenOf_7 rfl rfl ?_
    refine Ev.gR (pc := 8) (n := (0, 0)) (r := (some 261)) dX7_childrenOf_8 fl_X7_7 (zk_at hR.1 rfl) rfl hR.2.1 ?_
    refine Ev.iconst (pc := 11) (n := (0, 0)) dX7_childrenOf_11 ?_
    refine Ev.ia (pc := 12) (n := (0, 0)) (x := k) dX7_childrenOf_12 (zk_at hR.1 rfl) (by omega) (by omega) hn ?_
    refine Ev.icmp_ge (pc := 13) (n := (0, 0)) (tgt := 41) dX7_childrenOf_13 rfl (fun hc => ?_) (fun hc => absurd hc (by omega))
    refine Ev.iload_n (pc := 41) (n := (0, 0)) (i := 3) dX7_childrenOf_41 rfl rfl ?_
    exact Ev.iret dX7_childrenOf_42 rfl ⟨(Nat.le_of_ble_eq_true rfl), (Nat.le_of_ble_eq_true rfl)⟩
  | succ j ih =>
    intro k hk hj
    refine Ev.iload (pc := 5) (n := (0, 0)) dX7_childrenOf_5 rfl ?_
    refine Ev.aload_n (pc := 7) (n := (0, 0)) (i := 0) dX7_childrenOf_7 rfl rfl ?_
    refine Ev.gR (pc := 8) (n := (0, 0)) (r := (some 261)) dX7_childrenOf_8 fl_X7_7 (zk_at hR.1 rfl) rfl hR.2.1 ?_
    refine Ev.iconst (pc := 11) (n := (0, 0)) dX7_childrenOf_11 ?_
    refine Ev.ia (pc := 12) (n := (0, 0)) (x := n) dX7_childrenOf_12 (zk_at hR.1 rfl) (by omega) (by omega) hn ?_
    refine Ev.icmp_ge (pc := 13) (n := (0, 0)) (tgt := 41) dX7_childrenOf_13 rfl (fun hc => absurd hc (by omega)) (fun hc => ?_)
    have hs1 := hs k (by omega)
    have hs2 := hs (k + 1) (by omega)
    have ez : zsum (fun j => if rf h j 2 = gr ∧ rf h j 3 = r then 1 else 0) (k + 1) = zsum (fun j => if rf h j 2 = gr ∧ rf h j 3 = r then 1 else 0) k + (if rf h k 2 = gr ∧ rf h k 3 = r then 1 else 0) := rfl
    refine Ev.iload_n (pc := 16) (n := (0, 0)) (i := 3) dX7_childrenOf_16 rfl rfl ?_
    refine Ev.aload_n (pc := 17) (n := (0, 0)) (i := 0) dX7_childrenOf_17 rfl rfl ?_
    refine Ev.iload (pc := 18) (n := (0, 0)) dX7_childrenOf_18 rfl ?_
    refine Ev.iload_n (pc := 20) (n := (0, 0)) (i := 1) dX7_childrenOf_20 rfl rfl ?_
    refine Ev.iload_n (pc := 21) (n := (0, 0)) (i := 2) dX7_childrenOf_21 rfl rfl ?_
    refine Ev.callV (pc := 22) (n := (0, 0)) (ob := 260) (as := [zi (k : Int), zi gr, zi r]) (st := [zi (zsum (fun j => if rf h j 2 = gr ∧ rf h j 3 = r then 1 else 0) k)]) (s_isIn hR ⟨by omega, by omega⟩) dX7_childrenOf_22 ok_X7_isIn (lk_X7_64 rfl) ⟨(Nat.le_of_ble_eq_true rfl), (Nat.le_of_ble_eq_true rfl)⟩ (zk_at hR.1 rfl) ⟨by decide, rfl⟩ rfl (Nat.le_of_ble_eq_true rfl) (Nat.le_of_ble_eq_true rfl) ⟨(Nat.le_of_ble_eq_true rfl), (Nat.le_of_ble_eq_true rfl)⟩ ?_
    by_cases hin : rf h k 2 = gr ∧ rf h k 3 = r
    · skip
      rw [if_pos hin] at ez ⊢
      refine Ev.if_eq (pc := 25) (n := (0, 0)) (tgt := 32) dX7_childrenOf_25 rfl (fun hc => absurd hc (by decide)) (fun hc => ?_)
      refine Ev.iconst (pc := 28) (n := (0, 0)) dX7_childrenOf_28 ?_
      refine Ev.goto (pc := 29) (n := (0, 0)) (tgt := 33) dX7_childrenOf_29 rfl ?_
      refine Ev.iadd (pc := 33) (n := (0, 0)) dX7_childrenOf_33 ⟨by omega, by omega⟩ ?_
      refine Ev.istore_n (pc := 34) (n := (0, 0)) (i := 3) (L' := [(3, zi ((zsum (fun j => if rf h j 2 = gr ∧ rf h j 3 = r then 1 else 0) k) + 1)), (0, zr (some 260)), (1, zi gr), (2, zi r), (4, zi (k : Int))]) dX7_childrenOf_34 rfl (Nat.le_of_ble_eq_true rfl) rfl ?_
      refine Ev.iinc (pc := 35) (n := (0, 0)) (L' := [(4, zi ((k : Int) + 1)), (3, zi ((zsum (fun j => if rf h j 2 = gr ∧ rf h j 3 = r then 1 else 0) k) + 1)), (0, zr (some 260)), (1, zi gr), (2, zi r)]) dX7_childrenOf_35 rfl (Nat.le_of_ble_eq_true rfl) ⟨by omega, by omega⟩ rfl ?_
      refine Ev.goto (pc := 38) (n := (0, 0)) (tgt := 5) dX7_childrenOf_38 rfl ?_
      refine Ev.perm [2, 3, 4, 1, 0] rfl ?_
      have k9 := ih (k + 1) (by omega) (by omega)
      rw [ez] at k9
      exact k9
    · skip
      rw [if_neg hin] at ez ⊢
      refine Ev.if_eq (pc := 25) (n := (0, 0)) (tgt := 32) dX7_childrenOf_25 rfl (fun hc => ?_) (fun hc => absurd rfl hc)
      refine Ev.iconst (pc := 32) (n := (0, 0)) dX7_childrenOf_32 ?_
      refine Ev.iadd (pc := 33) (n := (0, 0)) dX7_childrenOf_33 ⟨by omega, by omega⟩ ?_
      refine Ev.istore_n (pc := 34) (n := (0, 0)) (i := 3) (L' := [(3, zi ((zsum (fun j => if rf h j 2 = gr ∧ rf h j 3 = r then 1 else 0) k) + 0)), (0, zr (some 260)), (1, zi gr), (2, zi r), (4, zi (k : Int))]) dX7_childrenOf_34 rfl (Nat.le_of_ble_eq_true rfl) rfl ?_
      refine Ev.iinc (pc := 35) (n := (0, 0)) (L' := [(4, zi ((k : Int) + 1)), (3, zi ((zsum (fun j => if rf h j 2 = gr ∧ rf h j 3 = r then 1 else 0) k) + 0)), (0, zr (some 260)), (1, zi gr), (2, zi r)]) dX7_childrenOf_35 rfl (Nat.le_of_ble_eq_true rfl) ⟨by omega, by omega⟩ rfl ?_
      refine Ev.goto (pc := 38) (n := (0, 0)) (tgt := 5) dX7_childrenOf_38 rfl ?_
      refine Ev.perm [2, 3, 4, 1, 0] rfl ?_
      have k9 := ih (k + 1) (by omega) (by omega)
      rw [ez] at k9
      exact k9
theorem s_childrenOf {h : zH} (hR : zRM h) {n : Nat} {gr r : Int} (hn : h.2.1 261 0 = n) (hn24 : n ≤ 24) (hs : ∀ m : Nat, m ≤ n → -1000000000 ≤ zsum (fun j => if rf h j 2 = gr ∧ rf h j 3 = r then 1 else 0) m ∧ zsum (fun j => if rf h j 2 = gr ∧ rf h j 3 = r then 1 else 0) m ≤ 1000000000) : Ev M_X7_childrenOf 0 [(0, zr (some 260)), (1, zi gr), (2, zi r)] [] h (0, 0) (.inl (some (zi (zsum (fun j => if rf h j 2 = gr ∧ rf h j 3 = r then 1 else 0) n))), h) := by
  refine Ev.iconst (pc := 0) (n := (0, 0)) dX7_childrenOf_0 ?_
  refine Ev.istore_n (pc := 1) (n := (0, 0)) (i := 3) (L' := [(3, zi 0), (0, zr (some 260)), (1, zi gr), (2, zi r)]) dX7_childrenOf_1 rfl (Nat.le_of_ble_eq_true rfl) rfl ?_
  refine Ev.iconst (pc := 2) (n := (0, 0)) dX7_childrenOf_2 ?_
  refine Ev.istore (pc := 3) (n := (0, 0)) (i := 4) (L' := [(4, zi 0), (3, zi 0), (0, zr (some 260)), (1, zi gr), (2, zi r)]) dX7_childrenOf_3 (Nat.le_of_ble_eq_true rfl) rfl ?_
  refine Ev.perm [2, 3, 4, 1, 0] rfl ?_
  exact s_childrenOf_loop hR hn hn24 hs n 0 (by omega) (by omega)
