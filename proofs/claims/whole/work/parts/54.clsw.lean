/-! ===== the law's statics, the class's face ===== -/
theorem Ev.getz {y : zM} {pc : Nat} {L : List (Nat × zV)} {st : List zV} {h : zH} {n : Nat × Nat} {q : zO} {x : Int} (k : zin x → Ev y pc L (zi x :: st) h n q) : Ev y pc L (zi x :: st) h n q := by
  intro l p e s m args below meth c D cy A ad0 k0 J ad H locs ls hC hZ hW hl hL hs
  exact k (zst_hd hs).1 l p e s m args below meth c D cy A ad0 k0 J ad H locs ls hC hZ hW hl hL hs
theorem sL_addGroup {h h1 : zH} {a b : Int} {v : Int} (h0 : h.1[0]? = some (3, 0)) (ho : h1.1[271]? = some (9, 1)) (hz : Ev M_X6_addGroup 0 [(0, zr (some 0)), (1, zi a), (2, zi b)] [] h (0, 0) (.inl (some (zi v)), h1)) : Ev M_L_addGroup 0 [(0, zr (some 0)), (1, zi a), (2, zi b), (3, zr (some 271))] [] h (0, 0) (.inl (some (zi 0)), (h1.1, zup h1.2.1 271 0 v, h1.2.2)) := by
  refine Ev.aload_n (pc := 0) (n := (0, 0)) (i := 3) dL_addGroup_0 rfl rfl ?_
  refine Ev.iconst (pc := 1) (n := (0, 0)) dL_addGroup_1 ?_
  refine Ev.aload_n (pc := 2) (n := (0, 0)) (i := 0) dL_addGroup_2 rfl rfl ?_
  refine Ev.iload_n (pc := 3) (n := (0, 0)) (i := 1) dL_addGroup_3 rfl rfl ?_
  refine Ev.iload_n (pc := 4) (n := (0, 0)) (i := 2) dL_addGroup_4 rfl rfl ?_
  refine Ev.callV (pc := 5) (n := (0, 0)) (ob := 0) (as := [zi a, zi b]) (st := [zi 0, zr (some 271)]) (hz) dL_addGroup_5 ok_X6_addGroup (lk_L_7 rfl) ⟨(Nat.le_of_ble_eq_true rfl), (Nat.le_of_ble_eq_true rfl)⟩ h0 ⟨by decide, rfl⟩ rfl (Nat.le_of_ble_eq_true rfl) (Nat.le_of_ble_eq_true rfl) ⟨(Nat.le_of_ble_eq_true rfl), (Nat.le_of_ble_eq_true rfl)⟩ ?_
  apply Ev.getz
  intro hv9
  refine Ev.i2l (pc := 8) (n := (3, 18)) dL_addGroup_8 ?_
  refine Ev.last (pc := 9) (n := (3, 18)) dL_addGroup_9 ho (by omega) (by omega) hv9 ?_
  refine Ev.goto (pc := 10) (n := (3, 18)) (tgt := 25) dL_addGroup_10 rfl ?_
  refine Ev.iconst (pc := 25) (n := (3, 18)) dL_addGroup_25 ?_
  exact Ev.iret dL_addGroup_26 rfl ⟨(Nat.le_of_ble_eq_true rfl), (Nat.le_of_ble_eq_true rfl)⟩
theorem sL_addGroup_x0 {h h1 : zH} {a b : Int} (h0 : h.1[0]? = some (3, 0)) (hz : Ev M_X6_addGroup 0 [(0, zr (some 0)), (1, zi a), (2, zi b)] [] h (0, 0) (.inr 0, h1)) : Ev M_L_addGroup 0 [(0, zr (some 0)), (1, zi a), (2, zi b), (3, zr (some 271))] [] h (0, 0) (.inl (some (zi 1)), h1) := by
  refine Ev.aload_n (pc := 0) (n := (0, 0)) (i := 3) dL_addGroup_0 rfl rfl ?_
  refine Ev.iconst (pc := 1) (n := (0, 0)) dL_addGroup_1 ?_
  refine Ev.aload_n (pc := 2) (n := (0, 0)) (i := 0) dL_addGroup_2 rfl rfl ?_
  refine Ev.iload_n (pc := 3) (n := (0, 0)) (i := 1) dL_addGroup_3 rfl rfl ?_
  refine Ev.iload_n (pc := 4) (n := (0, 0)) (i := 2) dL_addGroup_4 rfl rfl ?_
  exact Ev.callVC (pc := 5) (n := (0, 0)) (ob := 0) (as := [zi a, zi b]) (st := [zi 0, zr (some 271)]) (i := 4) (v := 1) hz dL_addGroup_5 ok_X6_addGroup (lk_L_7 rfl) ⟨(Nat.le_of_ble_eq_true rfl), (Nat.le_of_ble_eq_true rfl)⟩ h0 ⟨by decide, rfl⟩ rfl (Nat.le_of_ble_eq_true rfl) (Nat.le_of_ble_eq_true rfl) ⟨(Nat.le_of_ble_eq_true rfl), (Nat.le_of_ble_eq_true rfl)⟩ [] [(0, 10, 17, 15), (0, 10, 21, 17)] (a := 0) (b := 10) (hp := 13) (ct := 13) rfl (fun w hw => absurd hw List.not_mem_nil) ⟨by decide, by decide⟩ ⟨by decide, (zgw_in (List.mem_of_getElem? (i := 624) (by decide +kernel)) rfl)⟩ ⟨by decide, by decide⟩ ⟨(Nat.le_of_ble_eq_true rfl), 2, Or.inr ⟨rfl, dL_addGroup_13⟩, dL_addGroup_15, dL_addGroup_16⟩ rfl
theorem sL_addGroup_x1 {h h1 : zH} {a b : Int} (h0 : h.1[0]? = some (3, 0)) (hz : Ev M_X6_addGroup 0 [(0, zr (some 0)), (1, zi a), (2, zi b)] [] h (0, 0) (.inr 1, h1)) : Ev M_L_addGroup 0 [(0, zr (some 0)), (1, zi a), (2, zi b), (3, zr (some 271))] [] h (0, 0) (.inl (some (zi 2)), h1) := by
  refine Ev.aload_n (pc := 0) (n := (0, 0)) (i := 3) dL_addGroup_0 rfl rfl ?_
  refine Ev.iconst (pc := 1) (n := (0, 0)) dL_addGroup_1 ?_
  refine Ev.aload_n (pc := 2) (n := (0, 0)) (i := 0) dL_addGroup_2 rfl rfl ?_
  refine Ev.iload_n (pc := 3) (n := (0, 0)) (i := 1) dL_addGroup_3 rfl rfl ?_
  refine Ev.iload_n (pc := 4) (n := (0, 0)) (i := 2) dL_addGroup_4 rfl rfl ?_
  exact Ev.callVC (pc := 5) (n := (0, 0)) (ob := 0) (as := [zi a, zi b]) (st := [zi 0, zr (some 271)]) (i := 4) (v := 2) hz dL_addGroup_5 ok_X6_addGroup (lk_L_7 rfl) ⟨(Nat.le_of_ble_eq_true rfl), (Nat.le_of_ble_eq_true rfl)⟩ h0 ⟨by decide, rfl⟩ rfl (Nat.le_of_ble_eq_true rfl) (Nat.le_of_ble_eq_true rfl) ⟨(Nat.le_of_ble_eq_true rfl), (Nat.le_of_ble_eq_true rfl)⟩ [(0, 10, 13, 13)] [(0, 10, 21, 17)] (a := 0) (b := 10) (hp := 17) (ct := 15) rfl (fun w hw => by
    simp only [List.mem_cons, List.not_mem_nil, or_false] at hw
    rcases hw with rfl
    · exact ⟨by decide, 0, by decide, by decide, (zgw_in (List.mem_of_getElem? (i := 624) (by decide +kernel)) rfl)⟩) ⟨by decide, by decide⟩ ⟨by decide, (zgw_in (List.mem_of_getElem? (i := 625) (by decide +kernel)) rfl)⟩ ⟨by decide, by decide⟩ ⟨(Nat.le_of_ble_eq_true rfl), 2, Or.inr ⟨rfl, dL_addGroup_17⟩, dL_addGroup_19, dL_addGroup_20⟩ rfl
theorem sL_addGroup_x2 {h h1 : zH} {a b : Int} (h0 : h.1[0]? = some (3, 0)) (hz : Ev M_X6_addGroup 0 [(0, zr (some 0)), (1, zi a), (2, zi b)] [] h (0, 0) (.inr 2, h1)) : Ev M_L_addGroup 0 [(0, zr (some 0)), (1, zi a), (2, zi b), (3, zr (some 271))] [] h (0, 0) (.inl (some (zi 3)), h1) := by
  refine Ev.aload_n (pc := 0) (n := (0, 0)) (i := 3) dL_addGroup_0 rfl rfl ?_
  refine Ev.iconst (pc := 1) (n := (0, 0)) dL_addGroup_1 ?_
  refine Ev.aload_n (pc := 2) (n := (0, 0)) (i := 0) dL_addGroup_2 rfl rfl ?_
  refine Ev.iload_n (pc := 3) (n := (0, 0)) (i := 1) dL_addGroup_3 rfl rfl ?_
  refine Ev.iload_n (pc := 4) (n := (0, 0)) (i := 2) dL_addGroup_4 rfl rfl ?_
  exact Ev.callVC (pc := 5) (n := (0, 0)) (ob := 0) (as := [zi a, zi b]) (st := [zi 0, zr (some 271)]) (i := 4) (v := 3) hz dL_addGroup_5 ok_X6_addGroup (lk_L_7 rfl) ⟨(Nat.le_of_ble_eq_true rfl), (Nat.le_of_ble_eq_true rfl)⟩ h0 ⟨by decide, rfl⟩ rfl (Nat.le_of_ble_eq_true rfl) (Nat.le_of_ble_eq_true rfl) ⟨(Nat.le_of_ble_eq_true rfl), (Nat.le_of_ble_eq_true rfl)⟩ [(0, 10, 13, 13), (0, 10, 17, 15)] [] (a := 0) (b := 10) (hp := 21) (ct := 17) rfl (fun w hw => by
    simp only [List.mem_cons, List.not_mem_nil, or_false] at hw
    rcases hw with rfl | rfl
    · exact ⟨by decide, 0, by decide, by decide, (zgw_in (List.mem_of_getElem? (i := 624) (by decide +kernel)) rfl)⟩
    · exact ⟨by decide, 1, by decide, by decide, (zgw_in (List.mem_of_getElem? (i := 625) (by decide +kernel)) rfl)⟩) ⟨by decide, by decide⟩ ⟨by decide, (zgw_in (List.mem_of_getElem? (i := 626) (by decide +kernel)) rfl)⟩ ⟨by decide, by decide⟩ ⟨(Nat.le_of_ble_eq_true rfl), 2, Or.inr ⟨rfl, dL_addGroup_21⟩, dL_addGroup_23, dL_addGroup_24⟩ rfl
theorem sL_addTask {h h1 : zH} {a b c : Int} {v : Int} (h0 : h.1[0]? = some (3, 0)) (ho : h1.1[271]? = some (9, 1)) (hz : Ev M_X6_addTask 0 [(0, zr (some 0)), (1, zi a), (2, zi b), (3, zi c)] [] h (0, 0) (.inl (some (zi v)), h1)) : Ev M_L_addTask 0 [(0, zr (some 0)), (1, zi a), (2, zi b), (3, zi c), (4, zr (some 271))] [] h (0, 0) (.inl (some (zi 0)), (h1.1, zup h1.2.1 271 0 v, h1.2.2)) := by
  refine Ev.aload (pc := 0) (n := (0, 0)) dL_addTask_0 rfl ?_
  refine Ev.iconst (pc := 2) (n := (0, 0)) dL_addTask_2 ?_
  refine Ev.aload_n (pc := 3) (n := (0, 0)) (i := 0) dL_addTask_3 rfl rfl ?_
  refine Ev.iload_n (pc := 4) (n := (0, 0)) (i := 1) dL_addTask_4 rfl rfl ?_
  refine Ev.iload_n (pc := 5) (n := (0, 0)) (i := 2) dL_addTask_5 rfl rfl ?_
  refine Ev.iload_n (pc := 6) (n := (0, 0)) (i := 3) dL_addTask_6 rfl rfl ?_
  refine Ev.callV (pc := 7) (n := (0, 0)) (ob := 0) (as := [zi a, zi b, zi c]) (st := [zi 0, zr (some 271)]) (hz) dL_addTask_7 ok_X6_addTask (lk_L_19 rfl) ⟨(Nat.le_of_ble_eq_true rfl), (Nat.le_of_ble_eq_true rfl)⟩ h0 ⟨by decide, rfl⟩ rfl (Nat.le_of_ble_eq_true rfl) (Nat.le_of_ble_eq_true rfl) ⟨(Nat.le_of_ble_eq_true rfl), (Nat.le_of_ble_eq_true rfl)⟩ ?_
  apply Ev.getz
  intro hv9
  refine Ev.i2l (pc := 10) (n := (3, 18)) dL_addTask_10 ?_
  refine Ev.last (pc := 11) (n := (3, 18)) dL_addTask_11 ho (by omega) (by omega) hv9 ?_
  refine Ev.goto (pc := 12) (n := (3, 18)) (tgt := 27) dL_addTask_12 rfl ?_
  refine Ev.iconst (pc := 27) (n := (3, 18)) dL_addTask_27 ?_
  exact Ev.iret dL_addTask_28 rfl ⟨(Nat.le_of_ble_eq_true rfl), (Nat.le_of_ble_eq_true rfl)⟩
theorem sL_addTask_x0 {h h1 : zH} {a b c : Int} (h0 : h.1[0]? = some (3, 0)) (hz : Ev M_X6_addTask 0 [(0, zr (some 0)), (1, zi a), (2, zi b), (3, zi c)] [] h (0, 0) (.inr 0, h1)) : Ev M_L_addTask 0 [(0, zr (some 0)), (1, zi a), (2, zi b), (3, zi c), (4, zr (some 271))] [] h (0, 0) (.inl (some (zi 1)), h1) := by
  refine Ev.aload (pc := 0) (n := (0, 0)) dL_addTask_0 rfl ?_
  refine Ev.iconst (pc := 2) (n := (0, 0)) dL_addTask_2 ?_
  refine Ev.aload_n (pc := 3) (n := (0, 0)) (i := 0) dL_addTask_3 rfl rfl ?_
  refine Ev.iload_n (pc := 4) (n := (0, 0)) (i := 1) dL_addTask_4 rfl rfl ?_
  refine Ev.iload_n (pc := 5) (n := (0, 0)) (i := 2) dL_addTask_5 rfl rfl ?_
  refine Ev.iload_n (pc := 6) (n := (0, 0)) (i := 3) dL_addTask_6 rfl rfl ?_
  exact Ev.callVC (pc := 7) (n := (0, 0)) (ob := 0) (as := [zi a, zi b, zi c]) (st := [zi 0, zr (some 271)]) (i := 5) (v := 1) hz dL_addTask_7 ok_X6_addTask (lk_L_19 rfl) ⟨(Nat.le_of_ble_eq_true rfl), (Nat.le_of_ble_eq_true rfl)⟩ h0 ⟨by decide, rfl⟩ rfl (Nat.le_of_ble_eq_true rfl) (Nat.le_of_ble_eq_true rfl) ⟨(Nat.le_of_ble_eq_true rfl), (Nat.le_of_ble_eq_true rfl)⟩ [] [(0, 12, 19, 15), (0, 12, 23, 17)] (a := 0) (b := 12) (hp := 15) (ct := 13) rfl (fun w hw => absurd hw List.not_mem_nil) ⟨by decide, by decide⟩ ⟨by decide, (zgw_in (List.mem_of_getElem? (i := 624) (by decide +kernel)) rfl)⟩ ⟨by decide, by decide⟩ ⟨(Nat.le_of_ble_eq_true rfl), 2, Or.inr ⟨rfl, dL_addTask_15⟩, dL_addTask_17, dL_addTask_18⟩ rfl
theorem sL_addTask_x1 {h h1 : zH} {a b c : Int} (h0 : h.1[0]? = some (3, 0)) (hz : Ev M_X6_addTask 0 [(0, zr (some 0)), (1, zi a), (2, zi b), (3, zi c)] [] h (0, 0) (.inr 1, h1)) : Ev M_L_addTask 0 [(0, zr (some 0)), (1, zi a), (2, zi b), (3, zi c), (4, zr (some 271))] [] h (0, 0) (.inl (some (zi 2)), h1) := by
  refine Ev.aload (pc := 0) (n := (0, 0)) dL_addTask_0 rfl ?_
  refine Ev.iconst (pc := 2) (n := (0, 0)) dL_addTask_2 ?_
  refine Ev.aload_n (pc := 3) (n := (0, 0)) (i := 0) dL_addTask_3 rfl rfl ?_
  refine Ev.iload_n (pc := 4) (n := (0, 0)) (i := 1) dL_addTask_4 rfl rfl ?_
  refine Ev.iload_n (pc := 5) (n := (0, 0)) (i := 2) dL_addTask_5 rfl rfl ?_
  refine Ev.iload_n (pc := 6) (n := (0, 0)) (i := 3) dL_addTask_6 rfl rfl ?_
  exact Ev.callVC (pc := 7) (n := (0, 0)) (ob := 0) (as := [zi a, zi b, zi c]) (st := [zi 0, zr (some 271)]) (i := 5) (v := 2) hz dL_addTask_7 ok_X6_addTask (lk_L_19 rfl) ⟨(Nat.le_of_ble_eq_true rfl), (Nat.le_of_ble_eq_true rfl)⟩ h0 ⟨by decide, rfl⟩ rfl (Nat.le_of_ble_eq_true rfl) (Nat.le_of_ble_eq_true rfl) ⟨(Nat.le_of_ble_eq_true rfl), (Nat.le_of_ble_eq_true rfl)⟩ [(0, 12, 15, 13)] [(0, 12, 23, 17)] (a := 0) (b := 12) (hp := 19) (ct := 15) rfl (fun w hw => by
    simp only [List.mem_cons, List.not_mem_nil, or_false] at hw
    rcases hw with rfl
    · exact ⟨by decide, 0, by decide, by decide, (zgw_in (List.mem_of_getElem? (i := 624) (by decide +kernel)) rfl)⟩) ⟨by decide, by decide⟩ ⟨by decide, (zgw_in (List.mem_of_getElem? (i := 625) (by decide +kernel)) rfl)⟩ ⟨by decide, by decide⟩ ⟨(Nat.le_of_ble_eq_true rfl), 2, Or.inr ⟨rfl, dL_addTask_19⟩, dL_addTask_21, dL_addTask_22⟩ rfl
theorem sL_addTask_x2 {h h1 : zH} {a b c : Int} (h0 : h.1[0]? = some (3, 0)) (hz : Ev M_X6_addTask 0 [(0, zr (some 0)), (1, zi a), (2, zi b), (3, zi c)] [] h (0, 0) (.inr 2, h1)) : Ev M_L_addTask 0 [(0, zr (some 0)), (1, zi a), (2, zi b), (3, zi c), (4, zr (some 271))] [] h (0, 0) (.inl (some (zi 3)), h1) := by
  refine Ev.aload (pc := 0) (n := (0, 0)) dL_addTask_0 rfl ?_
  refine Ev.iconst (pc := 2) (n := (0, 0)) dL_addTask_2 ?_
  refine Ev.aload_n (pc := 3) (n := (0, 0)) (i := 0) dL_addTask_3 rfl rfl ?_
  refine Ev.iload_n (pc := 4) (n := (0, 0)) (i := 1) dL_addTask_4 rfl rfl ?_
  refine Ev.iload_n (pc := 5) (n := (0, 0)) (i := 2) dL_addTask_5 rfl rfl ?_
  refine Ev.iload_n (pc := 6) (n := (0, 0)) (i := 3) dL_addTask_6 rfl rfl ?_
  exact Ev.callVC (pc := 7) (n := (0, 0)) (ob := 0) (as := [zi a, zi b, zi c]) (st := [zi 0, zr (some 271)]) (i := 5) (v := 3) hz dL_addTask_7 ok_X6_addTask (lk_L_19 rfl) ⟨(Nat.le_of_ble_eq_true rfl), (Nat.le_of_ble_eq_true rfl)⟩ h0 ⟨by decide, rfl⟩ rfl (Nat.le_of_ble_eq_true rfl) (Nat.le_of_ble_eq_true rfl) ⟨(Nat.le_of_ble_eq_true rfl), (Nat.le_of_ble_eq_true rfl)⟩ [(0, 12, 15, 13), (0, 12, 19, 15)] [] (a := 0) (b := 12) (hp := 23) (ct := 17) rfl (fun w hw => by
    simp only [List.mem_cons, List.not_mem_nil, or_false] at hw
    rcases hw with rfl | rfl
    · exact ⟨by decide, 0, by decide, by decide, (zgw_in (List.mem_of_getElem? (i := 624) (by decide +kernel)) rfl)⟩
    · exact ⟨by decide, 1, by decide, by decide, (zgw_in (List.mem_of_getElem? (i := 625) (by decide +kernel)) rfl)⟩) ⟨by decide, by decide⟩ ⟨by decide, (zgw_in (List.mem_of_getElem? (i := 626) (by decide +kernel)) rfl)⟩ ⟨by decide, by decide⟩ ⟨(Nat.le_of_ble_eq_true rfl), 2, Or.inr ⟨rfl, dL_addTask_23⟩, dL_addTask_25, dL_addTask_26⟩ rfl
theorem sL_move {h h1 : zH} {a b c : Int} {v : Int} (h0 : h.1[0]? = some (3, 0)) (ho : h1.1[271]? = some (9, 1)) (hz : Ev M_X6_move 0 [(0, zr (some 0)), (1, zi a), (2, zi b), (3, zi c)] [] h (0, 0) (.inl (some (zi v)), h1)) : Ev M_L_move 0 [(0, zr (some 0)), (1, zi a), (2, zi b), (3, zi c), (4, zr (some 271))] [] h (0, 0) (.inl (some (zi 0)), (h1.1, zup h1.2.1 271 0 v, h1.2.2)) := by
  refine Ev.aload (pc := 0) (n := (0, 0)) dL_move_0 rfl ?_
  refine Ev.iconst (pc := 2) (n := (0, 0)) dL_move_2 ?_
  refine Ev.aload_n (pc := 3) (n := (0, 0)) (i := 0) dL_move_3 rfl rfl ?_
  refine Ev.iload_n (pc := 4) (n := (0, 0)) (i := 1) dL_move_4 rfl rfl ?_
  refine Ev.iload_n (pc := 5) (n := (0, 0)) (i := 2) dL_move_5 rfl rfl ?_
  refine Ev.iload_n (pc := 6) (n := (0, 0)) (i := 3) dL_move_6 rfl rfl ?_
  refine Ev.callV (pc := 7) (n := (0, 0)) (ob := 0) (as := [zi a, zi b, zi c]) (st := [zi 0, zr (some 271)]) (hz) dL_move_7 ok_X6_move (lk_L_23 rfl) ⟨(Nat.le_of_ble_eq_true rfl), (Nat.le_of_ble_eq_true rfl)⟩ h0 ⟨by decide, rfl⟩ rfl (Nat.le_of_ble_eq_true rfl) (Nat.le_of_ble_eq_true rfl) ⟨(Nat.le_of_ble_eq_true rfl), (Nat.le_of_ble_eq_true rfl)⟩ ?_
  apply Ev.getz
  intro hv9
  refine Ev.i2l (pc := 10) (n := (3, 18)) dL_move_10 ?_
  refine Ev.last (pc := 11) (n := (3, 18)) dL_move_11 ho (by omega) (by omega) hv9 ?_
  refine Ev.goto (pc := 12) (n := (3, 18)) (tgt := 27) dL_move_12 rfl ?_
  refine Ev.iconst (pc := 27) (n := (3, 18)) dL_move_27 ?_
  exact Ev.iret dL_move_28 rfl ⟨(Nat.le_of_ble_eq_true rfl), (Nat.le_of_ble_eq_true rfl)⟩
theorem sL_move_x0 {h h1 : zH} {a b c : Int} (h0 : h.1[0]? = some (3, 0)) (hz : Ev M_X6_move 0 [(0, zr (some 0)), (1, zi a), (2, zi b), (3, zi c)] [] h (0, 0) (.inr 0, h1)) : Ev M_L_move 0 [(0, zr (some 0)), (1, zi a), (2, zi b), (3, zi c), (4, zr (some 271))] [] h (0, 0) (.inl (some (zi 1)), h1) := by
  refine Ev.aload (pc := 0) (n := (0, 0)) dL_move_0 rfl ?_
  refine Ev.iconst (pc := 2) (n := (0, 0)) dL_move_2 ?_
  refine Ev.aload_n (pc := 3) (n := (0, 0)) (i := 0) dL_move_3 rfl rfl ?_
  refine Ev.iload_n (pc := 4) (n := (0, 0)) (i := 1) dL_move_4 rfl rfl ?_
  refine Ev.iload_n (pc := 5) (n := (0, 0)) (i := 2) dL_move_5 rfl rfl ?_
  refine Ev.iload_n (pc := 6) (n := (0, 0)) (i := 3) dL_move_6 rfl rfl ?_
  exact Ev.callVC (pc := 7) (n := (0, 0)) (ob := 0) (as := [zi a, zi b, zi c]) (st := [zi 0, zr (some 271)]) (i := 5) (v := 1) hz dL_move_7 ok_X6_move (lk_L_23 rfl) ⟨(Nat.le_of_ble_eq_true rfl), (Nat.le_of_ble_eq_true rfl)⟩ h0 ⟨by decide, rfl⟩ rfl (Nat.le_of_ble_eq_true rfl) (Nat.le_of_ble_eq_true rfl) ⟨(Nat.le_of_ble_eq_true rfl), (Nat.le_of_ble_eq_true rfl)⟩ [] [(0, 12, 19, 15), (0, 12, 23, 17)] (a := 0) (b := 12) (hp := 15) (ct := 13) rfl (fun w hw => absurd hw List.not_mem_nil) ⟨by decide, by decide⟩ ⟨by decide, (zgw_in (List.mem_of_getElem? (i := 624) (by decide +kernel)) rfl)⟩ ⟨by decide, by decide⟩ ⟨(Nat.le_of_ble_eq_true rfl), 2, Or.inr ⟨rfl, dL_move_15⟩, dL_move_17, dL_move_18⟩ rfl
theorem sL_move_x1 {h h1 : zH} {a b c : Int} (h0 : h.1[0]? = some (3, 0)) (hz : Ev M_X6_move 0 [(0, zr (some 0)), (1, zi a), (2, zi b), (3, zi c)] [] h (0, 0) (.inr 1, h1)) : Ev M_L_move 0 [(0, zr (some 0)), (1, zi a), (2, zi b), (3, zi c), (4, zr (some 271))] [] h (0, 0) (.inl (some (zi 2)), h1) := by
  refine Ev.aload (pc := 0) (n := (0, 0)) dL_move_0 rfl ?_
  refine Ev.iconst (pc := 2) (n := (0, 0)) dL_move_2 ?_
  refine Ev.aload_n (pc := 3) (n := (0, 0)) (i := 0) dL_move_3 rfl rfl ?_
  refine Ev.iload_n (pc := 4) (n := (0, 0)) (i := 1) dL_move_4 rfl rfl ?_
  refine Ev.iload_n (pc := 5) (n := (0, 0)) (i := 2) dL_move_5 rfl rfl ?_
  refine Ev.iload_n (pc := 6) (n := (0, 0)) (i := 3) dL_move_6 rfl rfl ?_
  exact Ev.callVC (pc := 7) (n := (0, 0)) (ob := 0) (as := [zi a, zi b, zi c]) (st := [zi 0, zr (some 271)]) (i := 5) (v := 2) hz dL_move_7 ok_X6_move (lk_L_23 rfl) ⟨(Nat.le_of_ble_eq_true rfl), (Nat.le_of_ble_eq_true rfl)⟩ h0 ⟨by decide, rfl⟩ rfl (Nat.le_of_ble_eq_true rfl) (Nat.le_of_ble_eq_true rfl) ⟨(Nat.le_of_ble_eq_true rfl), (Nat.le_of_ble_eq_true rfl)⟩ [(0, 12, 15, 13)] [(0, 12, 23, 17)] (a := 0) (b := 12) (hp := 19) (ct := 15) rfl (fun w hw => by
    simp only [List.mem_cons, List.not_mem_nil, or_false] at hw
    rcases hw with rfl
    · exact ⟨by decide, 0, by decide, by decide, (zgw_in (List.mem_of_getElem? (i := 624) (by decide +kernel)) rfl)⟩) ⟨by decide, by decide⟩ ⟨by decide, (zgw_in (List.mem_of_getElem? (i := 625) (by decide +kernel)) rfl)⟩ ⟨by decide, by decide⟩ ⟨(Nat.le_of_ble_eq_true rfl), 2, Or.inr ⟨rfl, dL_move_19⟩, dL_move_21, dL_move_22⟩ rfl
theorem sL_move_x2 {h h1 : zH} {a b c : Int} (h0 : h.1[0]? = some (3, 0)) (hz : Ev M_X6_move 0 [(0, zr (some 0)), (1, zi a), (2, zi b), (3, zi c)] [] h (0, 0) (.inr 2, h1)) : Ev M_L_move 0 [(0, zr (some 0)), (1, zi a), (2, zi b), (3, zi c), (4, zr (some 271))] [] h (0, 0) (.inl (some (zi 3)), h1) := by
  refine Ev.aload (pc := 0) (n := (0, 0)) dL_move_0 rfl ?_
  refine Ev.iconst (pc := 2) (n := (0, 0)) dL_move_2 ?_
  refine Ev.aload_n (pc := 3) (n := (0, 0)) (i := 0) dL_move_3 rfl rfl ?_
  refine Ev.iload_n (pc := 4) (n := (0, 0)) (i := 1) dL_move_4 rfl rfl ?_
  refine Ev.iload_n (pc := 5) (n := (0, 0)) (i := 2) dL_move_5 rfl rfl ?_
  refine Ev.iload_n (pc := 6) (n := (0, 0)) (i := 3) dL_move_6 rfl rfl ?_
  exact Ev.callVC (pc := 7) (n := (0, 0)) (ob := 0) (as := [zi a, zi b, zi c]) (st := [zi 0, zr (some 271)]) (i := 5) (v := 3) hz dL_move_7 ok_X6_move (lk_L_23 rfl) ⟨(Nat.le_of_ble_eq_true rfl), (Nat.le_of_ble_eq_true rfl)⟩ h0 ⟨by decide, rfl⟩ rfl (Nat.le_of_ble_eq_true rfl) (Nat.le_of_ble_eq_true rfl) ⟨(Nat.le_of_ble_eq_true rfl), (Nat.le_of_ble_eq_true rfl)⟩ [(0, 12, 15, 13), (0, 12, 19, 15)] [] (a := 0) (b := 12) (hp := 23) (ct := 17) rfl (fun w hw => by
    simp only [List.mem_cons, List.not_mem_nil, or_false] at hw
    rcases hw with rfl | rfl
    · exact ⟨by decide, 0, by decide, by decide, (zgw_in (List.mem_of_getElem? (i := 624) (by decide +kernel)) rfl)⟩
    · exact ⟨by decide, 1, by decide, by decide, (zgw_in (List.mem_of_getElem? (i := 625) (by decide +kernel)) rfl)⟩) ⟨by decide, by decide⟩ ⟨by decide, (zgw_in (List.mem_of_getElem? (i := 626) (by decide +kernel)) rfl)⟩ ⟨by decide, by decide⟩ ⟨(Nat.le_of_ble_eq_true rfl), 2, Or.inr ⟨rfl, dL_move_23⟩, dL_move_25, dL_move_26⟩ rfl
theorem sL_remove {h h1 : zH} {a : Int} {v : Int} (h0 : h.1[0]? = some (3, 0)) (ho : h1.1[271]? = some (9, 1)) (hz : Ev M_X6_remove 0 [(0, zr (some 0)), (1, zi a)] [] h (0, 0) (.inl (some (zi v)), h1)) : Ev M_L_remove 0 [(0, zr (some 0)), (1, zi a), (2, zr (some 271))] [] h (0, 0) (.inl (some (zi 0)), (h1.1, zup h1.2.1 271 0 v, h1.2.2)) := by
  refine Ev.aload_n (pc := 0) (n := (0, 0)) (i := 2) dL_remove_0 rfl rfl ?_
  refine Ev.iconst (pc := 1) (n := (0, 0)) dL_remove_1 ?_
  refine Ev.aload_n (pc := 2) (n := (0, 0)) (i := 0) dL_remove_2 rfl rfl ?_
  refine Ev.iload_n (pc := 3) (n := (0, 0)) (i := 1) dL_remove_3 rfl rfl ?_
  refine Ev.callV (pc := 4) (n := (0, 0)) (ob := 0) (as := [zi a]) (st := [zi 0, zr (some 271)]) (hz) dL_remove_4 ok_X6_remove (lk_L_26 rfl) ⟨(Nat.le_of_ble_eq_true rfl), (Nat.le_of_ble_eq_true rfl)⟩ h0 ⟨by decide, rfl⟩ rfl (Nat.le_of_ble_eq_true rfl) (Nat.le_of_ble_eq_true rfl) ⟨(Nat.le_of_ble_eq_true rfl), (Nat.le_of_ble_eq_true rfl)⟩ ?_
  apply Ev.getz
  intro hv9
  refine Ev.i2l (pc := 7) (n := (3, 18)) dL_remove_7 ?_
  refine Ev.last (pc := 8) (n := (3, 18)) dL_remove_8 ho (by omega) (by omega) hv9 ?_
  refine Ev.goto (pc := 9) (n := (3, 18)) (tgt := 18) dL_remove_9 rfl ?_
  refine Ev.iconst (pc := 18) (n := (3, 18)) dL_remove_18 ?_
  exact Ev.iret dL_remove_19 rfl ⟨(Nat.le_of_ble_eq_true rfl), (Nat.le_of_ble_eq_true rfl)⟩
theorem sL_remove_x0 {h h1 : zH} {a : Int} (h0 : h.1[0]? = some (3, 0)) (hz : Ev M_X6_remove 0 [(0, zr (some 0)), (1, zi a)] [] h (0, 0) (.inr 0, h1)) : Ev M_L_remove 0 [(0, zr (some 0)), (1, zi a), (2, zr (some 271))] [] h (0, 0) (.inl (some (zi 1)), h1) := by
  refine Ev.aload_n (pc := 0) (n := (0, 0)) (i := 2) dL_remove_0 rfl rfl ?_
  refine Ev.iconst (pc := 1) (n := (0, 0)) dL_remove_1 ?_
  refine Ev.aload_n (pc := 2) (n := (0, 0)) (i := 0) dL_remove_2 rfl rfl ?_
  refine Ev.iload_n (pc := 3) (n := (0, 0)) (i := 1) dL_remove_3 rfl rfl ?_
  exact Ev.callVC (pc := 4) (n := (0, 0)) (ob := 0) (as := [zi a]) (st := [zi 0, zr (some 271)]) (i := 3) (v := 1) hz dL_remove_4 ok_X6_remove (lk_L_26 rfl) ⟨(Nat.le_of_ble_eq_true rfl), (Nat.le_of_ble_eq_true rfl)⟩ h0 ⟨by decide, rfl⟩ rfl (Nat.le_of_ble_eq_true rfl) (Nat.le_of_ble_eq_true rfl) ⟨(Nat.le_of_ble_eq_true rfl), (Nat.le_of_ble_eq_true rfl)⟩ [] [(0, 9, 15, 17)] (a := 0) (b := 9) (hp := 12) (ct := 13) rfl (fun w hw => absurd hw List.not_mem_nil) ⟨by decide, by decide⟩ ⟨by decide, (zgw_in (List.mem_of_getElem? (i := 624) (by decide +kernel)) rfl)⟩ ⟨by decide, by decide⟩ ⟨(Nat.le_of_ble_eq_true rfl), 1, Or.inl ⟨⟨3, by decide⟩, rfl, rfl, dL_remove_12⟩, dL_remove_13, dL_remove_14⟩ rfl
theorem sL_remove_x2 {h h1 : zH} {a : Int} (h0 : h.1[0]? = some (3, 0)) (hz : Ev M_X6_remove 0 [(0, zr (some 0)), (1, zi a)] [] h (0, 0) (.inr 2, h1)) : Ev M_L_remove 0 [(0, zr (some 0)), (1, zi a), (2, zr (some 271))] [] h (0, 0) (.inl (some (zi 2)), h1) := by
  refine Ev.aload_n (pc := 0) (n := (0, 0)) (i := 2) dL_remove_0 rfl rfl ?_
  refine Ev.iconst (pc := 1) (n := (0, 0)) dL_remove_1 ?_
  refine Ev.aload_n (pc := 2) (n := (0, 0)) (i := 0) dL_remove_2 rfl rfl ?_
  refine Ev.iload_n (pc := 3) (n := (0, 0)) (i := 1) dL_remove_3 rfl rfl ?_
  exact Ev.callVC (pc := 4) (n := (0, 0)) (ob := 0) (as := [zi a]) (st := [zi 0, zr (some 271)]) (i := 3) (v := 2) hz dL_remove_4 ok_X6_remove (lk_L_26 rfl) ⟨(Nat.le_of_ble_eq_true rfl), (Nat.le_of_ble_eq_true rfl)⟩ h0 ⟨by decide, rfl⟩ rfl (Nat.le_of_ble_eq_true rfl) (Nat.le_of_ble_eq_true rfl) ⟨(Nat.le_of_ble_eq_true rfl), (Nat.le_of_ble_eq_true rfl)⟩ [(0, 9, 12, 13)] [] (a := 0) (b := 9) (hp := 15) (ct := 17) rfl (fun w hw => by
    simp only [List.mem_cons, List.not_mem_nil, or_false] at hw
    rcases hw with rfl
    · exact ⟨by decide, 0, by decide, by decide, (zgw_in (List.mem_of_getElem? (i := 624) (by decide +kernel)) rfl)⟩) ⟨by decide, by decide⟩ ⟨by decide, (zgw_in (List.mem_of_getElem? (i := 626) (by decide +kernel)) rfl)⟩ ⟨by decide, by decide⟩ ⟨(Nat.le_of_ble_eq_true rfl), 1, Or.inl ⟨⟨3, by decide⟩, rfl, rfl, dL_remove_15⟩, dL_remove_16, dL_remove_17⟩ rfl
theorem sL_setDuration {h h1 : zH} {a b : Int} {v : Int} (h0 : h.1[0]? = some (3, 0)) (ho : h1.1[271]? = some (9, 1)) (hz : Ev M_X6_setDuration 0 [(0, zr (some 0)), (1, zi a), (2, zi b)] [] h (0, 0) (.inl (some (zi v)), h1)) : Ev M_L_setDuration 0 [(0, zr (some 0)), (1, zi a), (2, zi b), (3, zr (some 271))] [] h (0, 0) (.inl (some (zi 0)), (h1.1, zup h1.2.1 271 0 v, h1.2.2)) := by
  refine Ev.aload_n (pc := 0) (n := (0, 0)) (i := 3) dL_setDuration_0 rfl rfl ?_
  refine Ev.iconst (pc := 1) (n := (0, 0)) dL_setDuration_1 ?_
  refine Ev.aload_n (pc := 2) (n := (0, 0)) (i := 0) dL_setDuration_2 rfl rfl ?_
  refine Ev.iload_n (pc := 3) (n := (0, 0)) (i := 1) dL_setDuration_3 rfl rfl ?_
  refine Ev.iload_n (pc := 4) (n := (0, 0)) (i := 2) dL_setDuration_4 rfl rfl ?_
  refine Ev.callV (pc := 5) (n := (0, 0)) (ob := 0) (as := [zi a, zi b]) (st := [zi 0, zr (some 271)]) (hz) dL_setDuration_5 ok_X6_setDuration (lk_L_30 rfl) ⟨(Nat.le_of_ble_eq_true rfl), (Nat.le_of_ble_eq_true rfl)⟩ h0 ⟨by decide, rfl⟩ rfl (Nat.le_of_ble_eq_true rfl) (Nat.le_of_ble_eq_true rfl) ⟨(Nat.le_of_ble_eq_true rfl), (Nat.le_of_ble_eq_true rfl)⟩ ?_
  apply Ev.getz
  intro hv9
  refine Ev.i2l (pc := 8) (n := (3, 18)) dL_setDuration_8 ?_
  refine Ev.last (pc := 9) (n := (3, 18)) dL_setDuration_9 ho (by omega) (by omega) hv9 ?_
  refine Ev.goto (pc := 10) (n := (3, 18)) (tgt := 25) dL_setDuration_10 rfl ?_
  refine Ev.iconst (pc := 25) (n := (3, 18)) dL_setDuration_25 ?_
  exact Ev.iret dL_setDuration_26 rfl ⟨(Nat.le_of_ble_eq_true rfl), (Nat.le_of_ble_eq_true rfl)⟩
theorem sL_setDuration_x0 {h h1 : zH} {a b : Int} (h0 : h.1[0]? = some (3, 0)) (hz : Ev M_X6_setDuration 0 [(0, zr (some 0)), (1, zi a), (2, zi b)] [] h (0, 0) (.inr 0, h1)) : Ev M_L_setDuration 0 [(0, zr (some 0)), (1, zi a), (2, zi b), (3, zr (some 271))] [] h (0, 0) (.inl (some (zi 1)), h1) := by
  refine Ev.aload_n (pc := 0) (n := (0, 0)) (i := 3) dL_setDuration_0 rfl rfl ?_
  refine Ev.iconst (pc := 1) (n := (0, 0)) dL_setDuration_1 ?_
  refine Ev.aload_n (pc := 2) (n := (0, 0)) (i := 0) dL_setDuration_2 rfl rfl ?_
  refine Ev.iload_n (pc := 3) (n := (0, 0)) (i := 1) dL_setDuration_3 rfl rfl ?_
  refine Ev.iload_n (pc := 4) (n := (0, 0)) (i := 2) dL_setDuration_4 rfl rfl ?_
  exact Ev.callVC (pc := 5) (n := (0, 0)) (ob := 0) (as := [zi a, zi b]) (st := [zi 0, zr (some 271)]) (i := 4) (v := 1) hz dL_setDuration_5 ok_X6_setDuration (lk_L_30 rfl) ⟨(Nat.le_of_ble_eq_true rfl), (Nat.le_of_ble_eq_true rfl)⟩ h0 ⟨by decide, rfl⟩ rfl (Nat.le_of_ble_eq_true rfl) (Nat.le_of_ble_eq_true rfl) ⟨(Nat.le_of_ble_eq_true rfl), (Nat.le_of_ble_eq_true rfl)⟩ [] [(0, 10, 17, 15), (0, 10, 21, 17)] (a := 0) (b := 10) (hp := 13) (ct := 13) rfl (fun w hw => absurd hw List.not_mem_nil) ⟨by decide, by decide⟩ ⟨by decide, (zgw_in (List.mem_of_getElem? (i := 624) (by decide +kernel)) rfl)⟩ ⟨by decide, by decide⟩ ⟨(Nat.le_of_ble_eq_true rfl), 2, Or.inr ⟨rfl, dL_setDuration_13⟩, dL_setDuration_15, dL_setDuration_16⟩ rfl
theorem sL_setDuration_x1 {h h1 : zH} {a b : Int} (h0 : h.1[0]? = some (3, 0)) (hz : Ev M_X6_setDuration 0 [(0, zr (some 0)), (1, zi a), (2, zi b)] [] h (0, 0) (.inr 1, h1)) : Ev M_L_setDuration 0 [(0, zr (some 0)), (1, zi a), (2, zi b), (3, zr (some 271))] [] h (0, 0) (.inl (some (zi 2)), h1) := by
  refine Ev.aload_n (pc := 0) (n := (0, 0)) (i := 3) dL_setDuration_0 rfl rfl ?_
  refine Ev.iconst (pc := 1) (n := (0, 0)) dL_setDuration_1 ?_
  refine Ev.aload_n (pc := 2) (n := (0, 0)) (i := 0) dL_setDuration_2 rfl rfl ?_
  refine Ev.iload_n (pc := 3) (n := (0, 0)) (i := 1) dL_setDuration_3 rfl rfl ?_
  refine Ev.iload_n (pc := 4) (n := (0, 0)) (i := 2) dL_setDuration_4 rfl rfl ?_
  exact Ev.callVC (pc := 5) (n := (0, 0)) (ob := 0) (as := [zi a, zi b]) (st := [zi 0, zr (some 271)]) (i := 4) (v := 2) hz dL_setDuration_5 ok_X6_setDuration (lk_L_30 rfl) ⟨(Nat.le_of_ble_eq_true rfl), (Nat.le_of_ble_eq_true rfl)⟩ h0 ⟨by decide, rfl⟩ rfl (Nat.le_of_ble_eq_true rfl) (Nat.le_of_ble_eq_true rfl) ⟨(Nat.le_of_ble_eq_true rfl), (Nat.le_of_ble_eq_true rfl)⟩ [(0, 10, 13, 13)] [(0, 10, 21, 17)] (a := 0) (b := 10) (hp := 17) (ct := 15) rfl (fun w hw => by
    simp only [List.mem_cons, List.not_mem_nil, or_false] at hw
    rcases hw with rfl
    · exact ⟨by decide, 0, by decide, by decide, (zgw_in (List.mem_of_getElem? (i := 624) (by decide +kernel)) rfl)⟩) ⟨by decide, by decide⟩ ⟨by decide, (zgw_in (List.mem_of_getElem? (i := 625) (by decide +kernel)) rfl)⟩ ⟨by decide, by decide⟩ ⟨(Nat.le_of_ble_eq_true rfl), 2, Or.inr ⟨rfl, dL_setDuration_17⟩, dL_setDuration_19, dL_setDuration_20⟩ rfl
theorem sL_setDuration_x2 {h h1 : zH} {a b : Int} (h0 : h.1[0]? = some (3, 0)) (hz : Ev M_X6_setDuration 0 [(0, zr (some 0)), (1, zi a), (2, zi b)] [] h (0, 0) (.inr 2, h1)) : Ev M_L_setDuration 0 [(0, zr (some 0)), (1, zi a), (2, zi b), (3, zr (some 271))] [] h (0, 0) (.inl (some (zi 3)), h1) := by
  refine Ev.aload_n (pc := 0) (n := (0, 0)) (i := 3) dL_setDuration_0 rfl rfl ?_
  refine Ev.iconst (pc := 1) (n := (0, 0)) dL_setDuration_1 ?_
  refine Ev.aload_n (pc := 2) (n := (0, 0)) (i := 0) dL_setDuration_2 rfl rfl ?_
  refine Ev.iload_n (pc := 3) (n := (0, 0)) (i := 1) dL_setDuration_3 rfl rfl ?_
  refine Ev.iload_n (pc := 4) (n := (0, 0)) (i := 2) dL_setDuration_4 rfl rfl ?_
  exact Ev.callVC (pc := 5) (n := (0, 0)) (ob := 0) (as := [zi a, zi b]) (st := [zi 0, zr (some 271)]) (i := 4) (v := 3) hz dL_setDuration_5 ok_X6_setDuration (lk_L_30 rfl) ⟨(Nat.le_of_ble_eq_true rfl), (Nat.le_of_ble_eq_true rfl)⟩ h0 ⟨by decide, rfl⟩ rfl (Nat.le_of_ble_eq_true rfl) (Nat.le_of_ble_eq_true rfl) ⟨(Nat.le_of_ble_eq_true rfl), (Nat.le_of_ble_eq_true rfl)⟩ [(0, 10, 13, 13), (0, 10, 17, 15)] [] (a := 0) (b := 10) (hp := 21) (ct := 17) rfl (fun w hw => by
    simp only [List.mem_cons, List.not_mem_nil, or_false] at hw
    rcases hw with rfl | rfl
    · exact ⟨by decide, 0, by decide, by decide, (zgw_in (List.mem_of_getElem? (i := 624) (by decide +kernel)) rfl)⟩
    · exact ⟨by decide, 1, by decide, by decide, (zgw_in (List.mem_of_getElem? (i := 625) (by decide +kernel)) rfl)⟩) ⟨by decide, by decide⟩ ⟨by decide, (zgw_in (List.mem_of_getElem? (i := 626) (by decide +kernel)) rfl)⟩ ⟨by decide, by decide⟩ ⟨(Nat.le_of_ble_eq_true rfl), 2, Or.inr ⟨rfl, dL_setDuration_21⟩, dL_setDuration_23, dL_setDuration_24⟩ rfl
theorem sL_borrow {h h1 : zH} {a b : Int} {v : Int} (h0 : h.1[0]? = some (3, 0)) (ho : h1.1[271]? = some (9, 1)) (hz : Ev M_X6_borrow 0 [(0, zr (some 0)), (1, zi a), (2, zi b)] [] h (0, 0) (.inl (some (zi v)), h1)) : Ev M_L_borrow 0 [(0, zr (some 0)), (1, zi a), (2, zi b), (3, zr (some 271))] [] h (0, 0) (.inl (some (zi 0)), (h1.1, zup h1.2.1 271 0 v, h1.2.2)) := by
  refine Ev.aload_n (pc := 0) (n := (0, 0)) (i := 3) dL_borrow_0 rfl rfl ?_
  refine Ev.iconst (pc := 1) (n := (0, 0)) dL_borrow_1 ?_
  refine Ev.aload_n (pc := 2) (n := (0, 0)) (i := 0) dL_borrow_2 rfl rfl ?_
  refine Ev.iload_n (pc := 3) (n := (0, 0)) (i := 1) dL_borrow_3 rfl rfl ?_
  refine Ev.iload_n (pc := 4) (n := (0, 0)) (i := 2) dL_borrow_4 rfl rfl ?_
  refine Ev.callV (pc := 5) (n := (0, 0)) (ob := 0) (as := [zi a, zi b]) (st := [zi 0, zr (some 271)]) (hz) dL_borrow_5 ok_X6_borrow (lk_L_33 rfl) ⟨(Nat.le_of_ble_eq_true rfl), (Nat.le_of_ble_eq_true rfl)⟩ h0 ⟨by decide, rfl⟩ rfl (Nat.le_of_ble_eq_true rfl) (Nat.le_of_ble_eq_true rfl) ⟨(Nat.le_of_ble_eq_true rfl), (Nat.le_of_ble_eq_true rfl)⟩ ?_
  apply Ev.getz
  intro hv9
  refine Ev.i2l (pc := 8) (n := (3, 18)) dL_borrow_8 ?_
  refine Ev.last (pc := 9) (n := (3, 18)) dL_borrow_9 ho (by omega) (by omega) hv9 ?_
  refine Ev.goto (pc := 10) (n := (3, 18)) (tgt := 25) dL_borrow_10 rfl ?_
  refine Ev.iconst (pc := 25) (n := (3, 18)) dL_borrow_25 ?_
  exact Ev.iret dL_borrow_26 rfl ⟨(Nat.le_of_ble_eq_true rfl), (Nat.le_of_ble_eq_true rfl)⟩
theorem sL_borrow_x0 {h h1 : zH} {a b : Int} (h0 : h.1[0]? = some (3, 0)) (hz : Ev M_X6_borrow 0 [(0, zr (some 0)), (1, zi a), (2, zi b)] [] h (0, 0) (.inr 0, h1)) : Ev M_L_borrow 0 [(0, zr (some 0)), (1, zi a), (2, zi b), (3, zr (some 271))] [] h (0, 0) (.inl (some (zi 1)), h1) := by
  refine Ev.aload_n (pc := 0) (n := (0, 0)) (i := 3) dL_borrow_0 rfl rfl ?_
  refine Ev.iconst (pc := 1) (n := (0, 0)) dL_borrow_1 ?_
  refine Ev.aload_n (pc := 2) (n := (0, 0)) (i := 0) dL_borrow_2 rfl rfl ?_
  refine Ev.iload_n (pc := 3) (n := (0, 0)) (i := 1) dL_borrow_3 rfl rfl ?_
  refine Ev.iload_n (pc := 4) (n := (0, 0)) (i := 2) dL_borrow_4 rfl rfl ?_
  exact Ev.callVC (pc := 5) (n := (0, 0)) (ob := 0) (as := [zi a, zi b]) (st := [zi 0, zr (some 271)]) (i := 4) (v := 1) hz dL_borrow_5 ok_X6_borrow (lk_L_33 rfl) ⟨(Nat.le_of_ble_eq_true rfl), (Nat.le_of_ble_eq_true rfl)⟩ h0 ⟨by decide, rfl⟩ rfl (Nat.le_of_ble_eq_true rfl) (Nat.le_of_ble_eq_true rfl) ⟨(Nat.le_of_ble_eq_true rfl), (Nat.le_of_ble_eq_true rfl)⟩ [] [(0, 10, 17, 15), (0, 10, 21, 17)] (a := 0) (b := 10) (hp := 13) (ct := 13) rfl (fun w hw => absurd hw List.not_mem_nil) ⟨by decide, by decide⟩ ⟨by decide, (zgw_in (List.mem_of_getElem? (i := 624) (by decide +kernel)) rfl)⟩ ⟨by decide, by decide⟩ ⟨(Nat.le_of_ble_eq_true rfl), 2, Or.inr ⟨rfl, dL_borrow_13⟩, dL_borrow_15, dL_borrow_16⟩ rfl
theorem sL_borrow_x1 {h h1 : zH} {a b : Int} (h0 : h.1[0]? = some (3, 0)) (hz : Ev M_X6_borrow 0 [(0, zr (some 0)), (1, zi a), (2, zi b)] [] h (0, 0) (.inr 1, h1)) : Ev M_L_borrow 0 [(0, zr (some 0)), (1, zi a), (2, zi b), (3, zr (some 271))] [] h (0, 0) (.inl (some (zi 2)), h1) := by
  refine Ev.aload_n (pc := 0) (n := (0, 0)) (i := 3) dL_borrow_0 rfl rfl ?_
  refine Ev.iconst (pc := 1) (n := (0, 0)) dL_borrow_1 ?_
  refine Ev.aload_n (pc := 2) (n := (0, 0)) (i := 0) dL_borrow_2 rfl rfl ?_
  refine Ev.iload_n (pc := 3) (n := (0, 0)) (i := 1) dL_borrow_3 rfl rfl ?_
  refine Ev.iload_n (pc := 4) (n := (0, 0)) (i := 2) dL_borrow_4 rfl rfl ?_
  exact Ev.callVC (pc := 5) (n := (0, 0)) (ob := 0) (as := [zi a, zi b]) (st := [zi 0, zr (some 271)]) (i := 4) (v := 2) hz dL_borrow_5 ok_X6_borrow (lk_L_33 rfl) ⟨(Nat.le_of_ble_eq_true rfl), (Nat.le_of_ble_eq_true rfl)⟩ h0 ⟨by decide, rfl⟩ rfl (Nat.le_of_ble_eq_true rfl) (Nat.le_of_ble_eq_true rfl) ⟨(Nat.le_of_ble_eq_true rfl), (Nat.le_of_ble_eq_true rfl)⟩ [(0, 10, 13, 13)] [(0, 10, 21, 17)] (a := 0) (b := 10) (hp := 17) (ct := 15) rfl (fun w hw => by
    simp only [List.mem_cons, List.not_mem_nil, or_false] at hw
    rcases hw with rfl
    · exact ⟨by decide, 0, by decide, by decide, (zgw_in (List.mem_of_getElem? (i := 624) (by decide +kernel)) rfl)⟩) ⟨by decide, by decide⟩ ⟨by decide, (zgw_in (List.mem_of_getElem? (i := 625) (by decide +kernel)) rfl)⟩ ⟨by decide, by decide⟩ ⟨(Nat.le_of_ble_eq_true rfl), 2, Or.inr ⟨rfl, dL_borrow_17⟩, dL_borrow_19, dL_borrow_20⟩ rfl
theorem sL_borrow_x2 {h h1 : zH} {a b : Int} (h0 : h.1[0]? = some (3, 0)) (hz : Ev M_X6_borrow 0 [(0, zr (some 0)), (1, zi a), (2, zi b)] [] h (0, 0) (.inr 2, h1)) : Ev M_L_borrow 0 [(0, zr (some 0)), (1, zi a), (2, zi b), (3, zr (some 271))] [] h (0, 0) (.inl (some (zi 3)), h1) := by
  refine Ev.aload_n (pc := 0) (n := (0, 0)) (i := 3) dL_borrow_0 rfl rfl ?_
  refine Ev.iconst (pc := 1) (n := (0, 0)) dL_borrow_1 ?_
  refine Ev.aload_n (pc := 2) (n := (0, 0)) (i := 0) dL_borrow_2 rfl rfl ?_
  refine Ev.iload_n (pc := 3) (n := (0, 0)) (i := 1) dL_borrow_3 rfl rfl ?_
  refine Ev.iload_n (pc := 4) (n := (0, 0)) (i := 2) dL_borrow_4 rfl rfl ?_
  exact Ev.callVC (pc := 5) (n := (0, 0)) (ob := 0) (as := [zi a, zi b]) (st := [zi 0, zr (some 271)]) (i := 4) (v := 3) hz dL_borrow_5 ok_X6_borrow (lk_L_33 rfl) ⟨(Nat.le_of_ble_eq_true rfl), (Nat.le_of_ble_eq_true rfl)⟩ h0 ⟨by decide, rfl⟩ rfl (Nat.le_of_ble_eq_true rfl) (Nat.le_of_ble_eq_true rfl) ⟨(Nat.le_of_ble_eq_true rfl), (Nat.le_of_ble_eq_true rfl)⟩ [(0, 10, 13, 13), (0, 10, 17, 15)] [] (a := 0) (b := 10) (hp := 21) (ct := 17) rfl (fun w hw => by
    simp only [List.mem_cons, List.not_mem_nil, or_false] at hw
    rcases hw with rfl | rfl
    · exact ⟨by decide, 0, by decide, by decide, (zgw_in (List.mem_of_getElem? (i := 624) (by decide +kernel)) rfl)⟩
    · exact ⟨by decide, 1, by decide, by decide, (zgw_in (List.mem_of_getElem? (i := 625) (by decide +kernel)) rfl)⟩) ⟨by decide, by decide⟩ ⟨by decide, (zgw_in (List.mem_of_getElem? (i := 626) (by decide +kernel)) rfl)⟩ ⟨by decide, by decide⟩ ⟨(Nat.le_of_ble_eq_true rfl), 2, Or.inr ⟨rfl, dL_borrow_21⟩, dL_borrow_23, dL_borrow_24⟩ rfl
theorem sL_giveBack {h h1 : zH} {a b : Int} {v : Int} (h0 : h.1[0]? = some (3, 0)) (ho : h1.1[271]? = some (9, 1)) (hz : Ev M_X6_giveBack 0 [(0, zr (some 0)), (1, zi a), (2, zi b)] [] h (0, 0) (.inl (some (zi v)), h1)) : Ev M_L_giveBack 0 [(0, zr (some 0)), (1, zi a), (2, zi b), (3, zr (some 271))] [] h (0, 0) (.inl (some (zi 0)), (h1.1, zup h1.2.1 271 0 v, h1.2.2)) := by
  refine Ev.aload_n (pc := 0) (n := (0, 0)) (i := 3) dL_giveBack_0 rfl rfl ?_
  refine Ev.iconst (pc := 1) (n := (0, 0)) dL_giveBack_1 ?_
  refine Ev.aload_n (pc := 2) (n := (0, 0)) (i := 0) dL_giveBack_2 rfl rfl ?_
  refine Ev.iload_n (pc := 3) (n := (0, 0)) (i := 1) dL_giveBack_3 rfl rfl ?_
  refine Ev.iload_n (pc := 4) (n := (0, 0)) (i := 2) dL_giveBack_4 rfl rfl ?_
  refine Ev.callV (pc := 5) (n := (0, 0)) (ob := 0) (as := [zi a, zi b]) (st := [zi 0, zr (some 271)]) (hz) dL_giveBack_5 ok_X6_giveBack (lk_L_36 rfl) ⟨(Nat.le_of_ble_eq_true rfl), (Nat.le_of_ble_eq_true rfl)⟩ h0 ⟨by decide, rfl⟩ rfl (Nat.le_of_ble_eq_true rfl) (Nat.le_of_ble_eq_true rfl) ⟨(Nat.le_of_ble_eq_true rfl), (Nat.le_of_ble_eq_true rfl)⟩ ?_
  apply Ev.getz
  intro hv9
  refine Ev.i2l (pc := 8) (n := (3, 18)) dL_giveBack_8 ?_
  refine Ev.last (pc := 9) (n := (3, 18)) dL_giveBack_9 ho (by omega) (by omega) hv9 ?_
  refine Ev.goto (pc := 10) (n := (3, 18)) (tgt := 25) dL_giveBack_10 rfl ?_
  refine Ev.iconst (pc := 25) (n := (3, 18)) dL_giveBack_25 ?_
  exact Ev.iret dL_giveBack_26 rfl ⟨(Nat.le_of_ble_eq_true rfl), (Nat.le_of_ble_eq_true rfl)⟩
theorem sL_giveBack_x0 {h h1 : zH} {a b : Int} (h0 : h.1[0]? = some (3, 0)) (hz : Ev M_X6_giveBack 0 [(0, zr (some 0)), (1, zi a), (2, zi b)] [] h (0, 0) (.inr 0, h1)) : Ev M_L_giveBack 0 [(0, zr (some 0)), (1, zi a), (2, zi b), (3, zr (some 271))] [] h (0, 0) (.inl (some (zi 1)), h1) := by
  refine Ev.aload_n (pc := 0) (n := (0, 0)) (i := 3) dL_giveBack_0 rfl rfl ?_
  refine Ev.iconst (pc := 1) (n := (0, 0)) dL_giveBack_1 ?_
  refine Ev.aload_n (pc := 2) (n := (0, 0)) (i := 0) dL_giveBack_2 rfl rfl ?_
  refine Ev.iload_n (pc := 3) (n := (0, 0)) (i := 1) dL_giveBack_3 rfl rfl ?_
  refine Ev.iload_n (pc := 4) (n := (0, 0)) (i := 2) dL_giveBack_4 rfl rfl ?_
  exact Ev.callVC (pc := 5) (n := (0, 0)) (ob := 0) (as := [zi a, zi b]) (st := [zi 0, zr (some 271)]) (i := 4) (v := 1) hz dL_giveBack_5 ok_X6_giveBack (lk_L_36 rfl) ⟨(Nat.le_of_ble_eq_true rfl), (Nat.le_of_ble_eq_true rfl)⟩ h0 ⟨by decide, rfl⟩ rfl (Nat.le_of_ble_eq_true rfl) (Nat.le_of_ble_eq_true rfl) ⟨(Nat.le_of_ble_eq_true rfl), (Nat.le_of_ble_eq_true rfl)⟩ [] [(0, 10, 17, 15), (0, 10, 21, 17)] (a := 0) (b := 10) (hp := 13) (ct := 13) rfl (fun w hw => absurd hw List.not_mem_nil) ⟨by decide, by decide⟩ ⟨by decide, (zgw_in (List.mem_of_getElem? (i := 624) (by decide +kernel)) rfl)⟩ ⟨by decide, by decide⟩ ⟨(Nat.le_of_ble_eq_true rfl), 2, Or.inr ⟨rfl, dL_giveBack_13⟩, dL_giveBack_15, dL_giveBack_16⟩ rfl
theorem sL_giveBack_x1 {h h1 : zH} {a b : Int} (h0 : h.1[0]? = some (3, 0)) (hz : Ev M_X6_giveBack 0 [(0, zr (some 0)), (1, zi a), (2, zi b)] [] h (0, 0) (.inr 1, h1)) : Ev M_L_giveBack 0 [(0, zr (some 0)), (1, zi a), (2, zi b), (3, zr (some 271))] [] h (0, 0) (.inl (some (zi 2)), h1) := by
  refine Ev.aload_n (pc := 0) (n := (0, 0)) (i := 3) dL_giveBack_0 rfl rfl ?_
  refine Ev.iconst (pc := 1) (n := (0, 0)) dL_giveBack_1 ?_
  refine Ev.aload_n (pc := 2) (n := (0, 0)) (i := 0) dL_giveBack_2 rfl rfl ?_
  refine Ev.iload_n (pc := 3) (n := (0, 0)) (i := 1) dL_giveBack_3 rfl rfl ?_
  refine Ev.iload_n (pc := 4) (n := (0, 0)) (i := 2) dL_giveBack_4 rfl rfl ?_
  exact Ev.callVC (pc := 5) (n := (0, 0)) (ob := 0) (as := [zi a, zi b]) (st := [zi 0, zr (some 271)]) (i := 4) (v := 2) hz dL_giveBack_5 ok_X6_giveBack (lk_L_36 rfl) ⟨(Nat.le_of_ble_eq_true rfl), (Nat.le_of_ble_eq_true rfl)⟩ h0 ⟨by decide, rfl⟩ rfl (Nat.le_of_ble_eq_true rfl) (Nat.le_of_ble_eq_true rfl) ⟨(Nat.le_of_ble_eq_true rfl), (Nat.le_of_ble_eq_true rfl)⟩ [(0, 10, 13, 13)] [(0, 10, 21, 17)] (a := 0) (b := 10) (hp := 17) (ct := 15) rfl (fun w hw => by
    simp only [List.mem_cons, List.not_mem_nil, or_false] at hw
    rcases hw with rfl
    · exact ⟨by decide, 0, by decide, by decide, (zgw_in (List.mem_of_getElem? (i := 624) (by decide +kernel)) rfl)⟩) ⟨by decide, by decide⟩ ⟨by decide, (zgw_in (List.mem_of_getElem? (i := 625) (by decide +kernel)) rfl)⟩ ⟨by decide, by decide⟩ ⟨(Nat.le_of_ble_eq_true rfl), 2, Or.inr ⟨rfl, dL_giveBack_17⟩, dL_giveBack_19, dL_giveBack_20⟩ rfl
theorem sL_giveBack_x2 {h h1 : zH} {a b : Int} (h0 : h.1[0]? = some (3, 0)) (hz : Ev M_X6_giveBack 0 [(0, zr (some 0)), (1, zi a), (2, zi b)] [] h (0, 0) (.inr 2, h1)) : Ev M_L_giveBack 0 [(0, zr (some 0)), (1, zi a), (2, zi b), (3, zr (some 271))] [] h (0, 0) (.inl (some (zi 3)), h1) := by
  refine Ev.aload_n (pc := 0) (n := (0, 0)) (i := 3) dL_giveBack_0 rfl rfl ?_
  refine Ev.iconst (pc := 1) (n := (0, 0)) dL_giveBack_1 ?_
  refine Ev.aload_n (pc := 2) (n := (0, 0)) (i := 0) dL_giveBack_2 rfl rfl ?_
  refine Ev.iload_n (pc := 3) (n := (0, 0)) (i := 1) dL_giveBack_3 rfl rfl ?_
  refine Ev.iload_n (pc := 4) (n := (0, 0)) (i := 2) dL_giveBack_4 rfl rfl ?_
  exact Ev.callVC (pc := 5) (n := (0, 0)) (ob := 0) (as := [zi a, zi b]) (st := [zi 0, zr (some 271)]) (i := 4) (v := 3) hz dL_giveBack_5 ok_X6_giveBack (lk_L_36 rfl) ⟨(Nat.le_of_ble_eq_true rfl), (Nat.le_of_ble_eq_true rfl)⟩ h0 ⟨by decide, rfl⟩ rfl (Nat.le_of_ble_eq_true rfl) (Nat.le_of_ble_eq_true rfl) ⟨(Nat.le_of_ble_eq_true rfl), (Nat.le_of_ble_eq_true rfl)⟩ [(0, 10, 13, 13), (0, 10, 17, 15)] [] (a := 0) (b := 10) (hp := 21) (ct := 17) rfl (fun w hw => by
    simp only [List.mem_cons, List.not_mem_nil, or_false] at hw
    rcases hw with rfl | rfl
    · exact ⟨by decide, 0, by decide, by decide, (zgw_in (List.mem_of_getElem? (i := 624) (by decide +kernel)) rfl)⟩
    · exact ⟨by decide, 1, by decide, by decide, (zgw_in (List.mem_of_getElem? (i := 625) (by decide +kernel)) rfl)⟩) ⟨by decide, by decide⟩ ⟨by decide, (zgw_in (List.mem_of_getElem? (i := 626) (by decide +kernel)) rfl)⟩ ⟨by decide, by decide⟩ ⟨(Nat.le_of_ble_eq_true rfl), 2, Or.inr ⟨rfl, dL_giveBack_21⟩, dL_giveBack_23, dL_giveBack_24⟩ rfl
theorem sL_setDeadline {h h1 : zH} {a : Int} {v : Int} (h0 : h.1[0]? = some (3, 0)) (ho : h1.1[271]? = some (9, 1)) (hz : Ev M_X6_setDeadline 0 [(0, zr (some 0)), (1, zi a)] [] h (0, 0) (.inl (some (zi v)), h1)) : Ev M_L_setDeadline 0 [(0, zr (some 0)), (1, zi a), (2, zr (some 271))] [] h (0, 0) (.inl (some (zi 0)), (h1.1, zup h1.2.1 271 0 v, h1.2.2)) := by
  refine Ev.aload_n (pc := 0) (n := (0, 0)) (i := 2) dL_setDeadline_0 rfl rfl ?_
  refine Ev.iconst (pc := 1) (n := (0, 0)) dL_setDeadline_1 ?_
  refine Ev.aload_n (pc := 2) (n := (0, 0)) (i := 0) dL_setDeadline_2 rfl rfl ?_
  refine Ev.iload_n (pc := 3) (n := (0, 0)) (i := 1) dL_setDeadline_3 rfl rfl ?_
  refine Ev.callV (pc := 4) (n := (0, 0)) (ob := 0) (as := [zi a]) (st := [zi 0, zr (some 271)]) (hz) dL_setDeadline_4 ok_X6_setDeadline (lk_L_39 rfl) ⟨(Nat.le_of_ble_eq_true rfl), (Nat.le_of_ble_eq_true rfl)⟩ h0 ⟨by decide, rfl⟩ rfl (Nat.le_of_ble_eq_true rfl) (Nat.le_of_ble_eq_true rfl) ⟨(Nat.le_of_ble_eq_true rfl), (Nat.le_of_ble_eq_true rfl)⟩ ?_
  apply Ev.getz
  intro hv9
  refine Ev.i2l (pc := 7) (n := (3, 18)) dL_setDeadline_7 ?_
  refine Ev.last (pc := 8) (n := (3, 18)) dL_setDeadline_8 ho (by omega) (by omega) hv9 ?_
  refine Ev.goto (pc := 9) (n := (3, 18)) (tgt := 15) dL_setDeadline_9 rfl ?_
  refine Ev.iconst (pc := 15) (n := (3, 18)) dL_setDeadline_15 ?_
  exact Ev.iret dL_setDeadline_16 rfl ⟨(Nat.le_of_ble_eq_true rfl), (Nat.le_of_ble_eq_true rfl)⟩
theorem sL_setDeadline_x1 {h h1 : zH} {a : Int} (h0 : h.1[0]? = some (3, 0)) (hz : Ev M_X6_setDeadline 0 [(0, zr (some 0)), (1, zi a)] [] h (0, 0) (.inr 1, h1)) : Ev M_L_setDeadline 0 [(0, zr (some 0)), (1, zi a), (2, zr (some 271))] [] h (0, 0) (.inl (some (zi 1)), h1) := by
  refine Ev.aload_n (pc := 0) (n := (0, 0)) (i := 2) dL_setDeadline_0 rfl rfl ?_
  refine Ev.iconst (pc := 1) (n := (0, 0)) dL_setDeadline_1 ?_
  refine Ev.aload_n (pc := 2) (n := (0, 0)) (i := 0) dL_setDeadline_2 rfl rfl ?_
  refine Ev.iload_n (pc := 3) (n := (0, 0)) (i := 1) dL_setDeadline_3 rfl rfl ?_
  exact Ev.callVC (pc := 4) (n := (0, 0)) (ob := 0) (as := [zi a]) (st := [zi 0, zr (some 271)]) (i := 3) (v := 1) hz dL_setDeadline_4 ok_X6_setDeadline (lk_L_39 rfl) ⟨(Nat.le_of_ble_eq_true rfl), (Nat.le_of_ble_eq_true rfl)⟩ h0 ⟨by decide, rfl⟩ rfl (Nat.le_of_ble_eq_true rfl) (Nat.le_of_ble_eq_true rfl) ⟨(Nat.le_of_ble_eq_true rfl), (Nat.le_of_ble_eq_true rfl)⟩ [] [] (a := 0) (b := 9) (hp := 12) (ct := 15) rfl (fun w hw => absurd hw List.not_mem_nil) ⟨by decide, by decide⟩ ⟨by decide, (zgw_in (List.mem_of_getElem? (i := 625) (by decide +kernel)) rfl)⟩ ⟨by decide, by decide⟩ ⟨(Nat.le_of_ble_eq_true rfl), 1, Or.inl ⟨⟨3, by decide⟩, rfl, rfl, dL_setDeadline_12⟩, dL_setDeadline_13, dL_setDeadline_14⟩ rfl
theorem sL_node {h h1 : zH} {a b : Int} {v : Int} (h0 : h.1[0]? = some (3, 0)) (ho : h1.1[271]? = some (9, 1)) (hz : Ev M_X6_node 0 [(0, zr (some 0)), (1, zi a), (2, zi b)] [] h (0, 0) (.inl (some (zi v)), h1)) : Ev M_L_node 0 [(0, zr (some 0)), (1, zi a), (2, zi b), (3, zr (some 271))] [] h (0, 0) (.inl (some (zi 0)), (h1.1, zup h1.2.1 271 0 v, h1.2.2)) := by
  refine Ev.aload_n (pc := 0) (n := (0, 0)) (i := 3) dL_node_0 rfl rfl ?_
  refine Ev.iconst (pc := 1) (n := (0, 0)) dL_node_1 ?_
  refine Ev.aload_n (pc := 2) (n := (0, 0)) (i := 0) dL_node_2 rfl rfl ?_
  refine Ev.iload_n (pc := 3) (n := (0, 0)) (i := 1) dL_node_3 rfl rfl ?_
  refine Ev.iload_n (pc := 4) (n := (0, 0)) (i := 2) dL_node_4 rfl rfl ?_
  refine Ev.callV (pc := 5) (n := (0, 0)) (ob := 0) (as := [zi a, zi b]) (st := [zi 0, zr (some 271)]) (hz) dL_node_5 ok_X6_node (lk_L_42 rfl) ⟨(Nat.le_of_ble_eq_true rfl), (Nat.le_of_ble_eq_true rfl)⟩ h0 ⟨by decide, rfl⟩ rfl (Nat.le_of_ble_eq_true rfl) (Nat.le_of_ble_eq_true rfl) ⟨(Nat.le_of_ble_eq_true rfl), (Nat.le_of_ble_eq_true rfl)⟩ ?_
  apply Ev.getz
  intro hv9
  refine Ev.i2l (pc := 8) (n := (2, 12)) dL_node_8 ?_
  refine Ev.last (pc := 9) (n := (2, 12)) dL_node_9 ho (by omega) (by omega) hv9 ?_
  refine Ev.goto (pc := 10) (n := (2, 12)) (tgt := 21) dL_node_10 rfl ?_
  refine Ev.iconst (pc := 21) (n := (2, 12)) dL_node_21 ?_
  exact Ev.iret dL_node_22 rfl ⟨(Nat.le_of_ble_eq_true rfl), (Nat.le_of_ble_eq_true rfl)⟩
theorem sL_node_x0 {h h1 : zH} {a b : Int} (h0 : h.1[0]? = some (3, 0)) (hz : Ev M_X6_node 0 [(0, zr (some 0)), (1, zi a), (2, zi b)] [] h (0, 0) (.inr 0, h1)) : Ev M_L_node 0 [(0, zr (some 0)), (1, zi a), (2, zi b), (3, zr (some 271))] [] h (0, 0) (.inl (some (zi 1)), h1) := by
  refine Ev.aload_n (pc := 0) (n := (0, 0)) (i := 3) dL_node_0 rfl rfl ?_
  refine Ev.iconst (pc := 1) (n := (0, 0)) dL_node_1 ?_
  refine Ev.aload_n (pc := 2) (n := (0, 0)) (i := 0) dL_node_2 rfl rfl ?_
  refine Ev.iload_n (pc := 3) (n := (0, 0)) (i := 1) dL_node_3 rfl rfl ?_
  refine Ev.iload_n (pc := 4) (n := (0, 0)) (i := 2) dL_node_4 rfl rfl ?_
  exact Ev.callVC (pc := 5) (n := (0, 0)) (ob := 0) (as := [zi a, zi b]) (st := [zi 0, zr (some 271)]) (i := 4) (v := 1) hz dL_node_5 ok_X6_node (lk_L_42 rfl) ⟨(Nat.le_of_ble_eq_true rfl), (Nat.le_of_ble_eq_true rfl)⟩ h0 ⟨by decide, rfl⟩ rfl (Nat.le_of_ble_eq_true rfl) (Nat.le_of_ble_eq_true rfl) ⟨(Nat.le_of_ble_eq_true rfl), (Nat.le_of_ble_eq_true rfl)⟩ [] [(0, 10, 17, 15)] (a := 0) (b := 10) (hp := 13) (ct := 13) rfl (fun w hw => absurd hw List.not_mem_nil) ⟨by decide, by decide⟩ ⟨by decide, (zgw_in (List.mem_of_getElem? (i := 624) (by decide +kernel)) rfl)⟩ ⟨by decide, by decide⟩ ⟨(Nat.le_of_ble_eq_true rfl), 2, Or.inr ⟨rfl, dL_node_13⟩, dL_node_15, dL_node_16⟩ rfl
theorem sL_node_x1 {h h1 : zH} {a b : Int} (h0 : h.1[0]? = some (3, 0)) (hz : Ev M_X6_node 0 [(0, zr (some 0)), (1, zi a), (2, zi b)] [] h (0, 0) (.inr 1, h1)) : Ev M_L_node 0 [(0, zr (some 0)), (1, zi a), (2, zi b), (3, zr (some 271))] [] h (0, 0) (.inl (some (zi 2)), h1) := by
  refine Ev.aload_n (pc := 0) (n := (0, 0)) (i := 3) dL_node_0 rfl rfl ?_
  refine Ev.iconst (pc := 1) (n := (0, 0)) dL_node_1 ?_
  refine Ev.aload_n (pc := 2) (n := (0, 0)) (i := 0) dL_node_2 rfl rfl ?_
  refine Ev.iload_n (pc := 3) (n := (0, 0)) (i := 1) dL_node_3 rfl rfl ?_
  refine Ev.iload_n (pc := 4) (n := (0, 0)) (i := 2) dL_node_4 rfl rfl ?_
  exact Ev.callVC (pc := 5) (n := (0, 0)) (ob := 0) (as := [zi a, zi b]) (st := [zi 0, zr (some 271)]) (i := 4) (v := 2) hz dL_node_5 ok_X6_node (lk_L_42 rfl) ⟨(Nat.le_of_ble_eq_true rfl), (Nat.le_of_ble_eq_true rfl)⟩ h0 ⟨by decide, rfl⟩ rfl (Nat.le_of_ble_eq_true rfl) (Nat.le_of_ble_eq_true rfl) ⟨(Nat.le_of_ble_eq_true rfl), (Nat.le_of_ble_eq_true rfl)⟩ [(0, 10, 13, 13)] [] (a := 0) (b := 10) (hp := 17) (ct := 15) rfl (fun w hw => by
    simp only [List.mem_cons, List.not_mem_nil, or_false] at hw
    rcases hw with rfl
    · exact ⟨by decide, 0, by decide, by decide, (zgw_in (List.mem_of_getElem? (i := 624) (by decide +kernel)) rfl)⟩) ⟨by decide, by decide⟩ ⟨by decide, (zgw_in (List.mem_of_getElem? (i := 625) (by decide +kernel)) rfl)⟩ ⟨by decide, by decide⟩ ⟨(Nat.le_of_ble_eq_true rfl), 2, Or.inr ⟨rfl, dL_node_17⟩, dL_node_19, dL_node_20⟩ rfl
theorem sL_row {h h1 : zH} {a b c : Int} {v : Int} (h0 : h.1[0]? = some (3, 0)) (ho : h1.1[271]? = some (9, 1)) (hz : Ev M_X6_row 0 [(0, zr (some 0)), (1, zi a), (2, zi b), (3, zi c)] [] h (0, 0) (.inl (some (zi v)), h1)) : Ev M_L_row 0 [(0, zr (some 0)), (1, zi a), (2, zi b), (3, zi c), (4, zr (some 271))] [] h (0, 0) (.inl (some (zi 0)), (h1.1, zup h1.2.1 271 0 v, h1.2.2)) := by
  refine Ev.aload (pc := 0) (n := (0, 0)) dL_row_0 rfl ?_
  refine Ev.iconst (pc := 2) (n := (0, 0)) dL_row_2 ?_
  refine Ev.aload_n (pc := 3) (n := (0, 0)) (i := 0) dL_row_3 rfl rfl ?_
  refine Ev.iload_n (pc := 4) (n := (0, 0)) (i := 1) dL_row_4 rfl rfl ?_
  refine Ev.iload_n (pc := 5) (n := (0, 0)) (i := 2) dL_row_5 rfl rfl ?_
  refine Ev.iload_n (pc := 6) (n := (0, 0)) (i := 3) dL_row_6 rfl rfl ?_
  refine Ev.callV (pc := 7) (n := (0, 0)) (ob := 0) (as := [zi a, zi b, zi c]) (st := [zi 0, zr (some 271)]) (hz) dL_row_7 ok_X6_row (lk_L_45 rfl) ⟨(Nat.le_of_ble_eq_true rfl), (Nat.le_of_ble_eq_true rfl)⟩ h0 ⟨by decide, rfl⟩ rfl (Nat.le_of_ble_eq_true rfl) (Nat.le_of_ble_eq_true rfl) ⟨(Nat.le_of_ble_eq_true rfl), (Nat.le_of_ble_eq_true rfl)⟩ ?_
  apply Ev.getz
  intro hv9
  refine Ev.i2l (pc := 10) (n := (4, 24)) dL_row_10 ?_
  refine Ev.last (pc := 11) (n := (4, 24)) dL_row_11 ho (by omega) (by omega) hv9 ?_
  refine Ev.goto (pc := 12) (n := (4, 24)) (tgt := 27) dL_row_12 rfl ?_
  refine Ev.iconst (pc := 27) (n := (4, 24)) dL_row_27 ?_
  exact Ev.iret dL_row_28 rfl ⟨(Nat.le_of_ble_eq_true rfl), (Nat.le_of_ble_eq_true rfl)⟩
theorem sL_row_x0 {h h1 : zH} {a b c : Int} (h0 : h.1[0]? = some (3, 0)) (hz : Ev M_X6_row 0 [(0, zr (some 0)), (1, zi a), (2, zi b), (3, zi c)] [] h (0, 0) (.inr 0, h1)) : Ev M_L_row 0 [(0, zr (some 0)), (1, zi a), (2, zi b), (3, zi c), (4, zr (some 271))] [] h (0, 0) (.inl (some (zi 1)), h1) := by
  refine Ev.aload (pc := 0) (n := (0, 0)) dL_row_0 rfl ?_
  refine Ev.iconst (pc := 2) (n := (0, 0)) dL_row_2 ?_
  refine Ev.aload_n (pc := 3) (n := (0, 0)) (i := 0) dL_row_3 rfl rfl ?_
  refine Ev.iload_n (pc := 4) (n := (0, 0)) (i := 1) dL_row_4 rfl rfl ?_
  refine Ev.iload_n (pc := 5) (n := (0, 0)) (i := 2) dL_row_5 rfl rfl ?_
  refine Ev.iload_n (pc := 6) (n := (0, 0)) (i := 3) dL_row_6 rfl rfl ?_
  exact Ev.callVC (pc := 7) (n := (0, 0)) (ob := 0) (as := [zi a, zi b, zi c]) (st := [zi 0, zr (some 271)]) (i := 5) (v := 1) hz dL_row_7 ok_X6_row (lk_L_45 rfl) ⟨(Nat.le_of_ble_eq_true rfl), (Nat.le_of_ble_eq_true rfl)⟩ h0 ⟨by decide, rfl⟩ rfl (Nat.le_of_ble_eq_true rfl) (Nat.le_of_ble_eq_true rfl) ⟨(Nat.le_of_ble_eq_true rfl), (Nat.le_of_ble_eq_true rfl)⟩ [] [(0, 12, 19, 15), (0, 12, 23, 17)] (a := 0) (b := 12) (hp := 15) (ct := 13) rfl (fun w hw => absurd hw List.not_mem_nil) ⟨by decide, by decide⟩ ⟨by decide, (zgw_in (List.mem_of_getElem? (i := 624) (by decide +kernel)) rfl)⟩ ⟨by decide, by decide⟩ ⟨(Nat.le_of_ble_eq_true rfl), 2, Or.inr ⟨rfl, dL_row_15⟩, dL_row_17, dL_row_18⟩ rfl
theorem sL_row_x1 {h h1 : zH} {a b c : Int} (h0 : h.1[0]? = some (3, 0)) (hz : Ev M_X6_row 0 [(0, zr (some 0)), (1, zi a), (2, zi b), (3, zi c)] [] h (0, 0) (.inr 1, h1)) : Ev M_L_row 0 [(0, zr (some 0)), (1, zi a), (2, zi b), (3, zi c), (4, zr (some 271))] [] h (0, 0) (.inl (some (zi 2)), h1) := by
  refine Ev.aload (pc := 0) (n := (0, 0)) dL_row_0 rfl ?_
  refine Ev.iconst (pc := 2) (n := (0, 0)) dL_row_2 ?_
  refine Ev.aload_n (pc := 3) (n := (0, 0)) (i := 0) dL_row_3 rfl rfl ?_
  refine Ev.iload_n (pc := 4) (n := (0, 0)) (i := 1) dL_row_4 rfl rfl ?_
  refine Ev.iload_n (pc := 5) (n := (0, 0)) (i := 2) dL_row_5 rfl rfl ?_
  refine Ev.iload_n (pc := 6) (n := (0, 0)) (i := 3) dL_row_6 rfl rfl ?_
  exact Ev.callVC (pc := 7) (n := (0, 0)) (ob := 0) (as := [zi a, zi b, zi c]) (st := [zi 0, zr (some 271)]) (i := 5) (v := 2) hz dL_row_7 ok_X6_row (lk_L_45 rfl) ⟨(Nat.le_of_ble_eq_true rfl), (Nat.le_of_ble_eq_true rfl)⟩ h0 ⟨by decide, rfl⟩ rfl (Nat.le_of_ble_eq_true rfl) (Nat.le_of_ble_eq_true rfl) ⟨(Nat.le_of_ble_eq_true rfl), (Nat.le_of_ble_eq_true rfl)⟩ [(0, 12, 15, 13)] [(0, 12, 23, 17)] (a := 0) (b := 12) (hp := 19) (ct := 15) rfl (fun w hw => by
    simp only [List.mem_cons, List.not_mem_nil, or_false] at hw
    rcases hw with rfl
    · exact ⟨by decide, 0, by decide, by decide, (zgw_in (List.mem_of_getElem? (i := 624) (by decide +kernel)) rfl)⟩) ⟨by decide, by decide⟩ ⟨by decide, (zgw_in (List.mem_of_getElem? (i := 625) (by decide +kernel)) rfl)⟩ ⟨by decide, by decide⟩ ⟨(Nat.le_of_ble_eq_true rfl), 2, Or.inr ⟨rfl, dL_row_19⟩, dL_row_21, dL_row_22⟩ rfl
theorem sL_row_x2 {h h1 : zH} {a b c : Int} (h0 : h.1[0]? = some (3, 0)) (hz : Ev M_X6_row 0 [(0, zr (some 0)), (1, zi a), (2, zi b), (3, zi c)] [] h (0, 0) (.inr 2, h1)) : Ev M_L_row 0 [(0, zr (some 0)), (1, zi a), (2, zi b), (3, zi c), (4, zr (some 271))] [] h (0, 0) (.inl (some (zi 3)), h1) := by
  refine Ev.aload (pc := 0) (n := (0, 0)) dL_row_0 rfl ?_
  refine Ev.iconst (pc := 2) (n := (0, 0)) dL_row_2 ?_
  refine Ev.aload_n (pc := 3) (n := (0, 0)) (i := 0) dL_row_3 rfl rfl ?_
  refine Ev.iload_n (pc := 4) (n := (0, 0)) (i := 1) dL_row_4 rfl rfl ?_
  refine Ev.iload_n (pc := 5) (n := (0, 0)) (i := 2) dL_row_5 rfl rfl ?_
  refine Ev.iload_n (pc := 6) (n := (0, 0)) (i := 3) dL_row_6 rfl rfl ?_
  exact Ev.callVC (pc := 7) (n := (0, 0)) (ob := 0) (as := [zi a, zi b, zi c]) (st := [zi 0, zr (some 271)]) (i := 5) (v := 3) hz dL_row_7 ok_X6_row (lk_L_45 rfl) ⟨(Nat.le_of_ble_eq_true rfl), (Nat.le_of_ble_eq_true rfl)⟩ h0 ⟨by decide, rfl⟩ rfl (Nat.le_of_ble_eq_true rfl) (Nat.le_of_ble_eq_true rfl) ⟨(Nat.le_of_ble_eq_true rfl), (Nat.le_of_ble_eq_true rfl)⟩ [(0, 12, 15, 13), (0, 12, 19, 15)] [] (a := 0) (b := 12) (hp := 23) (ct := 17) rfl (fun w hw => by
    simp only [List.mem_cons, List.not_mem_nil, or_false] at hw
    rcases hw with rfl | rfl
    · exact ⟨by decide, 0, by decide, by decide, (zgw_in (List.mem_of_getElem? (i := 624) (by decide +kernel)) rfl)⟩
    · exact ⟨by decide, 1, by decide, by decide, (zgw_in (List.mem_of_getElem? (i := 625) (by decide +kernel)) rfl)⟩) ⟨by decide, by decide⟩ ⟨by decide, (zgw_in (List.mem_of_getElem? (i := 626) (by decide +kernel)) rfl)⟩ ⟨by decide, by decide⟩ ⟨(Nat.le_of_ble_eq_true rfl), 2, Or.inr ⟨rfl, dL_row_23⟩, dL_row_25, dL_row_26⟩ rfl
theorem sL_child {h h1 : zH} {a b c : Int} {v : Int} (h0 : h.1[0]? = some (3, 0)) (ho : h1.1[271]? = some (9, 1)) (hz : Ev M_X6_child 0 [(0, zr (some 0)), (1, zi a), (2, zi b), (3, zi c)] [] h (0, 0) (.inl (some (zi v)), h1)) : Ev M_L_child 0 [(0, zr (some 0)), (1, zi a), (2, zi b), (3, zi c), (4, zr (some 271))] [] h (0, 0) (.inl (some (zi 0)), (h1.1, zup h1.2.1 271 0 v, h1.2.2)) := by
  refine Ev.aload (pc := 0) (n := (0, 0)) dL_child_0 rfl ?_
  refine Ev.iconst (pc := 2) (n := (0, 0)) dL_child_2 ?_
  refine Ev.aload_n (pc := 3) (n := (0, 0)) (i := 0) dL_child_3 rfl rfl ?_
  refine Ev.iload_n (pc := 4) (n := (0, 0)) (i := 1) dL_child_4 rfl rfl ?_
  refine Ev.iload_n (pc := 5) (n := (0, 0)) (i := 2) dL_child_5 rfl rfl ?_
  refine Ev.iload_n (pc := 6) (n := (0, 0)) (i := 3) dL_child_6 rfl rfl ?_
  refine Ev.callV (pc := 7) (n := (0, 0)) (ob := 0) (as := [zi a, zi b, zi c]) (st := [zi 0, zr (some 271)]) (hz) dL_child_7 ok_X6_child (lk_L_48 rfl) ⟨(Nat.le_of_ble_eq_true rfl), (Nat.le_of_ble_eq_true rfl)⟩ h0 ⟨by decide, rfl⟩ rfl (Nat.le_of_ble_eq_true rfl) (Nat.le_of_ble_eq_true rfl) ⟨(Nat.le_of_ble_eq_true rfl), (Nat.le_of_ble_eq_true rfl)⟩ ?_
  apply Ev.getz
  intro hv9
  refine Ev.i2l (pc := 10) (n := (4, 24)) dL_child_10 ?_
  refine Ev.last (pc := 11) (n := (4, 24)) dL_child_11 ho (by omega) (by omega) hv9 ?_
  refine Ev.goto (pc := 12) (n := (4, 24)) (tgt := 27) dL_child_12 rfl ?_
  refine Ev.iconst (pc := 27) (n := (4, 24)) dL_child_27 ?_
  exact Ev.iret dL_child_28 rfl ⟨(Nat.le_of_ble_eq_true rfl), (Nat.le_of_ble_eq_true rfl)⟩
theorem sL_child_x0 {h h1 : zH} {a b c : Int} (h0 : h.1[0]? = some (3, 0)) (hz : Ev M_X6_child 0 [(0, zr (some 0)), (1, zi a), (2, zi b), (3, zi c)] [] h (0, 0) (.inr 0, h1)) : Ev M_L_child 0 [(0, zr (some 0)), (1, zi a), (2, zi b), (3, zi c), (4, zr (some 271))] [] h (0, 0) (.inl (some (zi 1)), h1) := by
  refine Ev.aload (pc := 0) (n := (0, 0)) dL_child_0 rfl ?_
  refine Ev.iconst (pc := 2) (n := (0, 0)) dL_child_2 ?_
  refine Ev.aload_n (pc := 3) (n := (0, 0)) (i := 0) dL_child_3 rfl rfl ?_
  refine Ev.iload_n (pc := 4) (n := (0, 0)) (i := 1) dL_child_4 rfl rfl ?_
  refine Ev.iload_n (pc := 5) (n := (0, 0)) (i := 2) dL_child_5 rfl rfl ?_
  refine Ev.iload_n (pc := 6) (n := (0, 0)) (i := 3) dL_child_6 rfl rfl ?_
  exact Ev.callVC (pc := 7) (n := (0, 0)) (ob := 0) (as := [zi a, zi b, zi c]) (st := [zi 0, zr (some 271)]) (i := 5) (v := 1) hz dL_child_7 ok_X6_child (lk_L_48 rfl) ⟨(Nat.le_of_ble_eq_true rfl), (Nat.le_of_ble_eq_true rfl)⟩ h0 ⟨by decide, rfl⟩ rfl (Nat.le_of_ble_eq_true rfl) (Nat.le_of_ble_eq_true rfl) ⟨(Nat.le_of_ble_eq_true rfl), (Nat.le_of_ble_eq_true rfl)⟩ [] [(0, 12, 19, 15), (0, 12, 23, 17)] (a := 0) (b := 12) (hp := 15) (ct := 13) rfl (fun w hw => absurd hw List.not_mem_nil) ⟨by decide, by decide⟩ ⟨by decide, (zgw_in (List.mem_of_getElem? (i := 624) (by decide +kernel)) rfl)⟩ ⟨by decide, by decide⟩ ⟨(Nat.le_of_ble_eq_true rfl), 2, Or.inr ⟨rfl, dL_child_15⟩, dL_child_17, dL_child_18⟩ rfl
theorem sL_child_x1 {h h1 : zH} {a b c : Int} (h0 : h.1[0]? = some (3, 0)) (hz : Ev M_X6_child 0 [(0, zr (some 0)), (1, zi a), (2, zi b), (3, zi c)] [] h (0, 0) (.inr 1, h1)) : Ev M_L_child 0 [(0, zr (some 0)), (1, zi a), (2, zi b), (3, zi c), (4, zr (some 271))] [] h (0, 0) (.inl (some (zi 2)), h1) := by
  refine Ev.aload (pc := 0) (n := (0, 0)) dL_child_0 rfl ?_
  refine Ev.iconst (pc := 2) (n := (0, 0)) dL_child_2 ?_
  refine Ev.aload_n (pc := 3) (n := (0, 0)) (i := 0) dL_child_3 rfl rfl ?_
  refine Ev.iload_n (pc := 4) (n := (0, 0)) (i := 1) dL_child_4 rfl rfl ?_
  refine Ev.iload_n (pc := 5) (n := (0, 0)) (i := 2) dL_child_5 rfl rfl ?_
  refine Ev.iload_n (pc := 6) (n := (0, 0)) (i := 3) dL_child_6 rfl rfl ?_
  exact Ev.callVC (pc := 7) (n := (0, 0)) (ob := 0) (as := [zi a, zi b, zi c]) (st := [zi 0, zr (some 271)]) (i := 5) (v := 2) hz dL_child_7 ok_X6_child (lk_L_48 rfl) ⟨(Nat.le_of_ble_eq_true rfl), (Nat.le_of_ble_eq_true rfl)⟩ h0 ⟨by decide, rfl⟩ rfl (Nat.le_of_ble_eq_true rfl) (Nat.le_of_ble_eq_true rfl) ⟨(Nat.le_of_ble_eq_true rfl), (Nat.le_of_ble_eq_true rfl)⟩ [(0, 12, 15, 13)] [(0, 12, 23, 17)] (a := 0) (b := 12) (hp := 19) (ct := 15) rfl (fun w hw => by
    simp only [List.mem_cons, List.not_mem_nil, or_false] at hw
    rcases hw with rfl
    · exact ⟨by decide, 0, by decide, by decide, (zgw_in (List.mem_of_getElem? (i := 624) (by decide +kernel)) rfl)⟩) ⟨by decide, by decide⟩ ⟨by decide, (zgw_in (List.mem_of_getElem? (i := 625) (by decide +kernel)) rfl)⟩ ⟨by decide, by decide⟩ ⟨(Nat.le_of_ble_eq_true rfl), 2, Or.inr ⟨rfl, dL_child_19⟩, dL_child_21, dL_child_22⟩ rfl
theorem sL_child_x2 {h h1 : zH} {a b c : Int} (h0 : h.1[0]? = some (3, 0)) (hz : Ev M_X6_child 0 [(0, zr (some 0)), (1, zi a), (2, zi b), (3, zi c)] [] h (0, 0) (.inr 2, h1)) : Ev M_L_child 0 [(0, zr (some 0)), (1, zi a), (2, zi b), (3, zi c), (4, zr (some 271))] [] h (0, 0) (.inl (some (zi 3)), h1) := by
  refine Ev.aload (pc := 0) (n := (0, 0)) dL_child_0 rfl ?_
  refine Ev.iconst (pc := 2) (n := (0, 0)) dL_child_2 ?_
  refine Ev.aload_n (pc := 3) (n := (0, 0)) (i := 0) dL_child_3 rfl rfl ?_
  refine Ev.iload_n (pc := 4) (n := (0, 0)) (i := 1) dL_child_4 rfl rfl ?_
  refine Ev.iload_n (pc := 5) (n := (0, 0)) (i := 2) dL_child_5 rfl rfl ?_
  refine Ev.iload_n (pc := 6) (n := (0, 0)) (i := 3) dL_child_6 rfl rfl ?_
  exact Ev.callVC (pc := 7) (n := (0, 0)) (ob := 0) (as := [zi a, zi b, zi c]) (st := [zi 0, zr (some 271)]) (i := 5) (v := 3) hz dL_child_7 ok_X6_child (lk_L_48 rfl) ⟨(Nat.le_of_ble_eq_true rfl), (Nat.le_of_ble_eq_true rfl)⟩ h0 ⟨by decide, rfl⟩ rfl (Nat.le_of_ble_eq_true rfl) (Nat.le_of_ble_eq_true rfl) ⟨(Nat.le_of_ble_eq_true rfl), (Nat.le_of_ble_eq_true rfl)⟩ [(0, 12, 15, 13), (0, 12, 19, 15)] [] (a := 0) (b := 12) (hp := 23) (ct := 17) rfl (fun w hw => by
    simp only [List.mem_cons, List.not_mem_nil, or_false] at hw
    rcases hw with rfl | rfl
    · exact ⟨by decide, 0, by decide, by decide, (zgw_in (List.mem_of_getElem? (i := 624) (by decide +kernel)) rfl)⟩
    · exact ⟨by decide, 1, by decide, by decide, (zgw_in (List.mem_of_getElem? (i := 625) (by decide +kernel)) rfl)⟩) ⟨by decide, by decide⟩ ⟨by decide, (zgw_in (List.mem_of_getElem? (i := 626) (by decide +kernel)) rfl)⟩ ⟨by decide, by decide⟩ ⟨(Nat.le_of_ble_eq_true rfl), 2, Or.inr ⟨rfl, dL_child_23⟩, dL_child_25, dL_child_26⟩ rfl
theorem sL_critical {h h1 : zH} {a : Int} {v : Int} (h0 : h.1[0]? = some (3, 0)) (ho : h1.1[271]? = some (9, 1)) (hz : Ev M_X6_critical 0 [(0, zr (some 0)), (1, zi a)] [] h (0, 0) (.inl (some (zi v)), h1)) : Ev M_L_critical 0 [(0, zr (some 0)), (1, zi a), (2, zr (some 271))] [] h (0, 0) (.inl (some (zi 0)), (h1.1, zup h1.2.1 271 0 v, h1.2.2)) := by
  refine Ev.aload_n (pc := 0) (n := (0, 0)) (i := 2) dL_critical_0 rfl rfl ?_
  refine Ev.iconst (pc := 1) (n := (0, 0)) dL_critical_1 ?_
  refine Ev.aload_n (pc := 2) (n := (0, 0)) (i := 0) dL_critical_2 rfl rfl ?_
  refine Ev.iload_n (pc := 3) (n := (0, 0)) (i := 1) dL_critical_3 rfl rfl ?_
  refine Ev.callV (pc := 4) (n := (0, 0)) (ob := 0) (as := [zi a]) (st := [zi 0, zr (some 271)]) (hz) dL_critical_4 ok_X6_critical (lk_L_51 rfl) ⟨(Nat.le_of_ble_eq_true rfl), (Nat.le_of_ble_eq_true rfl)⟩ h0 ⟨by decide, rfl⟩ rfl (Nat.le_of_ble_eq_true rfl) (Nat.le_of_ble_eq_true rfl) ⟨(Nat.le_of_ble_eq_true rfl), (Nat.le_of_ble_eq_true rfl)⟩ ?_
  apply Ev.getz
  intro hv9
  refine Ev.i2l (pc := 7) (n := (1, 6)) dL_critical_7 ?_
  refine Ev.last (pc := 8) (n := (1, 6)) dL_critical_8 ho (by omega) (by omega) hv9 ?_
  refine Ev.goto (pc := 9) (n := (1, 6)) (tgt := 15) dL_critical_9 rfl ?_
  refine Ev.iconst (pc := 15) (n := (1, 6)) dL_critical_15 ?_
  exact Ev.iret dL_critical_16 rfl ⟨(Nat.le_of_ble_eq_true rfl), (Nat.le_of_ble_eq_true rfl)⟩
theorem sL_critical_x1 {h h1 : zH} {a : Int} (h0 : h.1[0]? = some (3, 0)) (hz : Ev M_X6_critical 0 [(0, zr (some 0)), (1, zi a)] [] h (0, 0) (.inr 1, h1)) : Ev M_L_critical 0 [(0, zr (some 0)), (1, zi a), (2, zr (some 271))] [] h (0, 0) (.inl (some (zi 1)), h1) := by
  refine Ev.aload_n (pc := 0) (n := (0, 0)) (i := 2) dL_critical_0 rfl rfl ?_
  refine Ev.iconst (pc := 1) (n := (0, 0)) dL_critical_1 ?_
  refine Ev.aload_n (pc := 2) (n := (0, 0)) (i := 0) dL_critical_2 rfl rfl ?_
  refine Ev.iload_n (pc := 3) (n := (0, 0)) (i := 1) dL_critical_3 rfl rfl ?_
  exact Ev.callVC (pc := 4) (n := (0, 0)) (ob := 0) (as := [zi a]) (st := [zi 0, zr (some 271)]) (i := 3) (v := 1) hz dL_critical_4 ok_X6_critical (lk_L_51 rfl) ⟨(Nat.le_of_ble_eq_true rfl), (Nat.le_of_ble_eq_true rfl)⟩ h0 ⟨by decide, rfl⟩ rfl (Nat.le_of_ble_eq_true rfl) (Nat.le_of_ble_eq_true rfl) ⟨(Nat.le_of_ble_eq_true rfl), (Nat.le_of_ble_eq_true rfl)⟩ [] [] (a := 0) (b := 9) (hp := 12) (ct := 15) rfl (fun w hw => absurd hw List.not_mem_nil) ⟨by decide, by decide⟩ ⟨by decide, (zgw_in (List.mem_of_getElem? (i := 625) (by decide +kernel)) rfl)⟩ ⟨by decide, by decide⟩ ⟨(Nat.le_of_ble_eq_true rfl), 1, Or.inl ⟨⟨3, by decide⟩, rfl, rfl, dL_critical_12⟩, dL_critical_13, dL_critical_14⟩ rfl
theorem sL_running {h h1 : zH} {a : Int} {v : Int} (h0 : h.1[0]? = some (3, 0)) (ho : h1.1[271]? = some (9, 1)) (hz : Ev M_X6_running 0 [(0, zr (some 0)), (1, zi a)] [] h (0, 0) (.inl (some (zi v)), h1)) : Ev M_L_running 0 [(0, zr (some 0)), (1, zi a), (2, zr (some 271))] [] h (0, 0) (.inl (some (zi 0)), (h1.1, zup h1.2.1 271 0 v, h1.2.2)) := by
  refine Ev.aload_n (pc := 0) (n := (0, 0)) (i := 2) dL_running_0 rfl rfl ?_
  refine Ev.iconst (pc := 1) (n := (0, 0)) dL_running_1 ?_
  refine Ev.aload_n (pc := 2) (n := (0, 0)) (i := 0) dL_running_2 rfl rfl ?_
  refine Ev.iload_n (pc := 3) (n := (0, 0)) (i := 1) dL_running_3 rfl rfl ?_
  refine Ev.callV (pc := 4) (n := (0, 0)) (ob := 0) (as := [zi a]) (st := [zi 0, zr (some 271)]) (hz) dL_running_4 ok_X6_running (lk_L_54 rfl) ⟨(Nat.le_of_ble_eq_true rfl), (Nat.le_of_ble_eq_true rfl)⟩ h0 ⟨by decide, rfl⟩ rfl (Nat.le_of_ble_eq_true rfl) (Nat.le_of_ble_eq_true rfl) ⟨(Nat.le_of_ble_eq_true rfl), (Nat.le_of_ble_eq_true rfl)⟩ ?_
  apply Ev.getz
  intro hv9
  refine Ev.i2l (pc := 7) (n := (1, 6)) dL_running_7 ?_
  refine Ev.last (pc := 8) (n := (1, 6)) dL_running_8 ho (by omega) (by omega) hv9 ?_
  refine Ev.goto (pc := 9) (n := (1, 6)) (tgt := 15) dL_running_9 rfl ?_
  refine Ev.iconst (pc := 15) (n := (1, 6)) dL_running_15 ?_
  exact Ev.iret dL_running_16 rfl ⟨(Nat.le_of_ble_eq_true rfl), (Nat.le_of_ble_eq_true rfl)⟩
theorem sL_running_x1 {h h1 : zH} {a : Int} (h0 : h.1[0]? = some (3, 0)) (hz : Ev M_X6_running 0 [(0, zr (some 0)), (1, zi a)] [] h (0, 0) (.inr 1, h1)) : Ev M_L_running 0 [(0, zr (some 0)), (1, zi a), (2, zr (some 271))] [] h (0, 0) (.inl (some (zi 1)), h1) := by
  refine Ev.aload_n (pc := 0) (n := (0, 0)) (i := 2) dL_running_0 rfl rfl ?_
  refine Ev.iconst (pc := 1) (n := (0, 0)) dL_running_1 ?_
  refine Ev.aload_n (pc := 2) (n := (0, 0)) (i := 0) dL_running_2 rfl rfl ?_
  refine Ev.iload_n (pc := 3) (n := (0, 0)) (i := 1) dL_running_3 rfl rfl ?_
  exact Ev.callVC (pc := 4) (n := (0, 0)) (ob := 0) (as := [zi a]) (st := [zi 0, zr (some 271)]) (i := 3) (v := 1) hz dL_running_4 ok_X6_running (lk_L_54 rfl) ⟨(Nat.le_of_ble_eq_true rfl), (Nat.le_of_ble_eq_true rfl)⟩ h0 ⟨by decide, rfl⟩ rfl (Nat.le_of_ble_eq_true rfl) (Nat.le_of_ble_eq_true rfl) ⟨(Nat.le_of_ble_eq_true rfl), (Nat.le_of_ble_eq_true rfl)⟩ [] [] (a := 0) (b := 9) (hp := 12) (ct := 15) rfl (fun w hw => absurd hw List.not_mem_nil) ⟨by decide, by decide⟩ ⟨by decide, (zgw_in (List.mem_of_getElem? (i := 625) (by decide +kernel)) rfl)⟩ ⟨by decide, by decide⟩ ⟨(Nat.le_of_ble_eq_true rfl), 1, Or.inl ⟨⟨3, by decide⟩, rfl, rfl, dL_running_12⟩, dL_running_13, dL_running_14⟩ rfl
theorem sL_whole {h h1 : zH} {a : Int} {v : Int} (h0 : h.1[0]? = some (3, 0)) (ho : h1.1[271]? = some (9, 1)) (hz : Ev M_X6_whole 0 [(0, zr (some 0)), (1, zi a)] [] h (0, 0) (.inl (some (zi v)), h1)) : Ev M_L_whole 0 [(0, zr (some 0)), (1, zi a), (2, zr (some 271))] [] h (0, 0) (.inl (some (zi 0)), (h1.1, zup h1.2.1 271 0 v, h1.2.2)) := by
  refine Ev.aload_n (pc := 0) (n := (0, 0)) (i := 2) dL_whole_0 rfl rfl ?_
  refine Ev.iconst (pc := 1) (n := (0, 0)) dL_whole_1 ?_
  refine Ev.aload_n (pc := 2) (n := (0, 0)) (i := 0) dL_whole_2 rfl rfl ?_
  refine Ev.iload_n (pc := 3) (n := (0, 0)) (i := 1) dL_whole_3 rfl rfl ?_
  refine Ev.callV (pc := 4) (n := (0, 0)) (ob := 0) (as := [zi a]) (st := [zi 0, zr (some 271)]) (hz) dL_whole_4 ok_X6_whole (lk_L_57 rfl) ⟨(Nat.le_of_ble_eq_true rfl), (Nat.le_of_ble_eq_true rfl)⟩ h0 ⟨by decide, rfl⟩ rfl (Nat.le_of_ble_eq_true rfl) (Nat.le_of_ble_eq_true rfl) ⟨(Nat.le_of_ble_eq_true rfl), (Nat.le_of_ble_eq_true rfl)⟩ ?_
  apply Ev.getz
  intro hv9
  refine Ev.i2l (pc := 7) (n := (1, 6)) dL_whole_7 ?_
  refine Ev.last (pc := 8) (n := (1, 6)) dL_whole_8 ho (by omega) (by omega) hv9 ?_
  refine Ev.goto (pc := 9) (n := (1, 6)) (tgt := 15) dL_whole_9 rfl ?_
  refine Ev.iconst (pc := 15) (n := (1, 6)) dL_whole_15 ?_
  exact Ev.iret dL_whole_16 rfl ⟨(Nat.le_of_ble_eq_true rfl), (Nat.le_of_ble_eq_true rfl)⟩
theorem sL_whole_x1 {h h1 : zH} {a : Int} (h0 : h.1[0]? = some (3, 0)) (hz : Ev M_X6_whole 0 [(0, zr (some 0)), (1, zi a)] [] h (0, 0) (.inr 1, h1)) : Ev M_L_whole 0 [(0, zr (some 0)), (1, zi a), (2, zr (some 271))] [] h (0, 0) (.inl (some (zi 1)), h1) := by
  refine Ev.aload_n (pc := 0) (n := (0, 0)) (i := 2) dL_whole_0 rfl rfl ?_
  refine Ev.iconst (pc := 1) (n := (0, 0)) dL_whole_1 ?_
  refine Ev.aload_n (pc := 2) (n := (0, 0)) (i := 0) dL_whole_2 rfl rfl ?_
  refine Ev.iload_n (pc := 3) (n := (0, 0)) (i := 1) dL_whole_3 rfl rfl ?_
  exact Ev.callVC (pc := 4) (n := (0, 0)) (ob := 0) (as := [zi a]) (st := [zi 0, zr (some 271)]) (i := 3) (v := 1) hz dL_whole_4 ok_X6_whole (lk_L_57 rfl) ⟨(Nat.le_of_ble_eq_true rfl), (Nat.le_of_ble_eq_true rfl)⟩ h0 ⟨by decide, rfl⟩ rfl (Nat.le_of_ble_eq_true rfl) (Nat.le_of_ble_eq_true rfl) ⟨(Nat.le_of_ble_eq_true rfl), (Nat.le_of_ble_eq_true rfl)⟩ [] [] (a := 0) (b := 9) (hp := 12) (ct := 15) rfl (fun w hw => absurd hw List.not_mem_nil) ⟨by decide, by decide⟩ ⟨by decide, (zgw_in (List.mem_of_getElem? (i := 625) (by decide +kernel)) rfl)⟩ ⟨by decide, by decide⟩ ⟨(Nat.le_of_ble_eq_true rfl), 1, Or.inl ⟨⟨3, by decide⟩, rfl, rfl, dL_whole_12⟩, dL_whole_13, dL_whole_14⟩ rfl
theorem sL_endWith {h h1 : zH} {a b : Int} {v : Int} (h0 : h.1[0]? = some (3, 0)) (ho : h1.1[271]? = some (9, 1)) (hz : Ev M_X6_endWith 0 [(0, zr (some 0)), (1, zi a), (2, zi b)] [] h (0, 0) (.inl (some (zi v)), h1)) : Ev M_L_endWith 0 [(0, zr (some 0)), (1, zi a), (2, zi b), (3, zr (some 271))] [] h (0, 0) (.inl (some (zi 0)), (h1.1, zup h1.2.1 271 0 v, h1.2.2)) := by
  refine Ev.aload_n (pc := 0) (n := (0, 0)) (i := 3) dL_endWith_0 rfl rfl ?_
  refine Ev.iconst (pc := 1) (n := (0, 0)) dL_endWith_1 ?_
  refine Ev.aload_n (pc := 2) (n := (0, 0)) (i := 0) dL_endWith_2 rfl rfl ?_
  refine Ev.iload_n (pc := 3) (n := (0, 0)) (i := 1) dL_endWith_3 rfl rfl ?_
  refine Ev.iload_n (pc := 4) (n := (0, 0)) (i := 2) dL_endWith_4 rfl rfl ?_
  refine Ev.callV (pc := 5) (n := (0, 0)) (ob := 0) (as := [zi a, zi b]) (st := [zi 0, zr (some 271)]) (hz) dL_endWith_5 ok_X6_endWith (lk_L_60 rfl) ⟨(Nat.le_of_ble_eq_true rfl), (Nat.le_of_ble_eq_true rfl)⟩ h0 ⟨by decide, rfl⟩ rfl (Nat.le_of_ble_eq_true rfl) (Nat.le_of_ble_eq_true rfl) ⟨(Nat.le_of_ble_eq_true rfl), (Nat.le_of_ble_eq_true rfl)⟩ ?_
  apply Ev.getz
  intro hv9
  refine Ev.i2l (pc := 8) (n := (3, 18)) dL_endWith_8 ?_
  refine Ev.last (pc := 9) (n := (3, 18)) dL_endWith_9 ho (by omega) (by omega) hv9 ?_
  refine Ev.goto (pc := 10) (n := (3, 18)) (tgt := 25) dL_endWith_10 rfl ?_
  refine Ev.iconst (pc := 25) (n := (3, 18)) dL_endWith_25 ?_
  exact Ev.iret dL_endWith_26 rfl ⟨(Nat.le_of_ble_eq_true rfl), (Nat.le_of_ble_eq_true rfl)⟩
theorem sL_endWith_x0 {h h1 : zH} {a b : Int} (h0 : h.1[0]? = some (3, 0)) (hz : Ev M_X6_endWith 0 [(0, zr (some 0)), (1, zi a), (2, zi b)] [] h (0, 0) (.inr 0, h1)) : Ev M_L_endWith 0 [(0, zr (some 0)), (1, zi a), (2, zi b), (3, zr (some 271))] [] h (0, 0) (.inl (some (zi 1)), h1) := by
  refine Ev.aload_n (pc := 0) (n := (0, 0)) (i := 3) dL_endWith_0 rfl rfl ?_
  refine Ev.iconst (pc := 1) (n := (0, 0)) dL_endWith_1 ?_
  refine Ev.aload_n (pc := 2) (n := (0, 0)) (i := 0) dL_endWith_2 rfl rfl ?_
  refine Ev.iload_n (pc := 3) (n := (0, 0)) (i := 1) dL_endWith_3 rfl rfl ?_
  refine Ev.iload_n (pc := 4) (n := (0, 0)) (i := 2) dL_endWith_4 rfl rfl ?_
  exact Ev.callVC (pc := 5) (n := (0, 0)) (ob := 0) (as := [zi a, zi b]) (st := [zi 0, zr (some 271)]) (i := 4) (v := 1) hz dL_endWith_5 ok_X6_endWith (lk_L_60 rfl) ⟨(Nat.le_of_ble_eq_true rfl), (Nat.le_of_ble_eq_true rfl)⟩ h0 ⟨by decide, rfl⟩ rfl (Nat.le_of_ble_eq_true rfl) (Nat.le_of_ble_eq_true rfl) ⟨(Nat.le_of_ble_eq_true rfl), (Nat.le_of_ble_eq_true rfl)⟩ [] [(0, 10, 17, 15), (0, 10, 21, 17)] (a := 0) (b := 10) (hp := 13) (ct := 13) rfl (fun w hw => absurd hw List.not_mem_nil) ⟨by decide, by decide⟩ ⟨by decide, (zgw_in (List.mem_of_getElem? (i := 624) (by decide +kernel)) rfl)⟩ ⟨by decide, by decide⟩ ⟨(Nat.le_of_ble_eq_true rfl), 2, Or.inr ⟨rfl, dL_endWith_13⟩, dL_endWith_15, dL_endWith_16⟩ rfl
theorem sL_endWith_x1 {h h1 : zH} {a b : Int} (h0 : h.1[0]? = some (3, 0)) (hz : Ev M_X6_endWith 0 [(0, zr (some 0)), (1, zi a), (2, zi b)] [] h (0, 0) (.inr 1, h1)) : Ev M_L_endWith 0 [(0, zr (some 0)), (1, zi a), (2, zi b), (3, zr (some 271))] [] h (0, 0) (.inl (some (zi 2)), h1) := by
  refine Ev.aload_n (pc := 0) (n := (0, 0)) (i := 3) dL_endWith_0 rfl rfl ?_
  refine Ev.iconst (pc := 1) (n := (0, 0)) dL_endWith_1 ?_
  refine Ev.aload_n (pc := 2) (n := (0, 0)) (i := 0) dL_endWith_2 rfl rfl ?_
  refine Ev.iload_n (pc := 3) (n := (0, 0)) (i := 1) dL_endWith_3 rfl rfl ?_
  refine Ev.iload_n (pc := 4) (n := (0, 0)) (i := 2) dL_endWith_4 rfl rfl ?_
  exact Ev.callVC (pc := 5) (n := (0, 0)) (ob := 0) (as := [zi a, zi b]) (st := [zi 0, zr (some 271)]) (i := 4) (v := 2) hz dL_endWith_5 ok_X6_endWith (lk_L_60 rfl) ⟨(Nat.le_of_ble_eq_true rfl), (Nat.le_of_ble_eq_true rfl)⟩ h0 ⟨by decide, rfl⟩ rfl (Nat.le_of_ble_eq_true rfl) (Nat.le_of_ble_eq_true rfl) ⟨(Nat.le_of_ble_eq_true rfl), (Nat.le_of_ble_eq_true rfl)⟩ [(0, 10, 13, 13)] [(0, 10, 21, 17)] (a := 0) (b := 10) (hp := 17) (ct := 15) rfl (fun w hw => by
    simp only [List.mem_cons, List.not_mem_nil, or_false] at hw
    rcases hw with rfl
    · exact ⟨by decide, 0, by decide, by decide, (zgw_in (List.mem_of_getElem? (i := 624) (by decide +kernel)) rfl)⟩) ⟨by decide, by decide⟩ ⟨by decide, (zgw_in (List.mem_of_getElem? (i := 625) (by decide +kernel)) rfl)⟩ ⟨by decide, by decide⟩ ⟨(Nat.le_of_ble_eq_true rfl), 2, Or.inr ⟨rfl, dL_endWith_17⟩, dL_endWith_19, dL_endWith_20⟩ rfl
theorem sL_endWith_x2 {h h1 : zH} {a b : Int} (h0 : h.1[0]? = some (3, 0)) (hz : Ev M_X6_endWith 0 [(0, zr (some 0)), (1, zi a), (2, zi b)] [] h (0, 0) (.inr 2, h1)) : Ev M_L_endWith 0 [(0, zr (some 0)), (1, zi a), (2, zi b), (3, zr (some 271))] [] h (0, 0) (.inl (some (zi 3)), h1) := by
  refine Ev.aload_n (pc := 0) (n := (0, 0)) (i := 3) dL_endWith_0 rfl rfl ?_
  refine Ev.iconst (pc := 1) (n := (0, 0)) dL_endWith_1 ?_
  refine Ev.aload_n (pc := 2) (n := (0, 0)) (i := 0) dL_endWith_2 rfl rfl ?_
  refine Ev.iload_n (pc := 3) (n := (0, 0)) (i := 1) dL_endWith_3 rfl rfl ?_
  refine Ev.iload_n (pc := 4) (n := (0, 0)) (i := 2) dL_endWith_4 rfl rfl ?_
  exact Ev.callVC (pc := 5) (n := (0, 0)) (ob := 0) (as := [zi a, zi b]) (st := [zi 0, zr (some 271)]) (i := 4) (v := 3) hz dL_endWith_5 ok_X6_endWith (lk_L_60 rfl) ⟨(Nat.le_of_ble_eq_true rfl), (Nat.le_of_ble_eq_true rfl)⟩ h0 ⟨by decide, rfl⟩ rfl (Nat.le_of_ble_eq_true rfl) (Nat.le_of_ble_eq_true rfl) ⟨(Nat.le_of_ble_eq_true rfl), (Nat.le_of_ble_eq_true rfl)⟩ [(0, 10, 13, 13), (0, 10, 17, 15)] [] (a := 0) (b := 10) (hp := 21) (ct := 17) rfl (fun w hw => by
    simp only [List.mem_cons, List.not_mem_nil, or_false] at hw
    rcases hw with rfl | rfl
    · exact ⟨by decide, 0, by decide, by decide, (zgw_in (List.mem_of_getElem? (i := 624) (by decide +kernel)) rfl)⟩
    · exact ⟨by decide, 1, by decide, by decide, (zgw_in (List.mem_of_getElem? (i := 625) (by decide +kernel)) rfl)⟩) ⟨by decide, by decide⟩ ⟨by decide, (zgw_in (List.mem_of_getElem? (i := 626) (by decide +kernel)) rfl)⟩ ⟨by decide, by decide⟩ ⟨(Nat.le_of_ble_eq_true rfl), 2, Or.inr ⟨rfl, dL_endWith_21⟩, dL_endWith_23, dL_endWith_24⟩ rfl
theorem sL_growsTo {h h1 : zH} {a : Int} {v : Int} (h0 : h.1[0]? = some (3, 0)) (ho : h1.1[271]? = some (9, 1)) (hz : Ev M_X6_growsTo 0 [(0, zr (some 0)), (1, zi a)] [] h (0, 0) (.inl (some (zi v)), h1)) : Ev M_L_growsTo 0 [(0, zr (some 0)), (1, zi a), (2, zr (some 271))] [] h (0, 0) (.inl (some (zi 0)), (h1.1, zup h1.2.1 271 0 v, h1.2.2)) := by
  refine Ev.aload_n (pc := 0) (n := (0, 0)) (i := 2) dL_growsTo_0 rfl rfl ?_
  refine Ev.iconst (pc := 1) (n := (0, 0)) dL_growsTo_1 ?_
  refine Ev.aload_n (pc := 2) (n := (0, 0)) (i := 0) dL_growsTo_2 rfl rfl ?_
  refine Ev.iload_n (pc := 3) (n := (0, 0)) (i := 1) dL_growsTo_3 rfl rfl ?_
  refine Ev.callV (pc := 4) (n := (0, 0)) (ob := 0) (as := [zi a]) (st := [zi 0, zr (some 271)]) (hz) dL_growsTo_4 ok_X6_growsTo (lk_L_63 rfl) ⟨(Nat.le_of_ble_eq_true rfl), (Nat.le_of_ble_eq_true rfl)⟩ h0 ⟨by decide, rfl⟩ rfl (Nat.le_of_ble_eq_true rfl) (Nat.le_of_ble_eq_true rfl) ⟨(Nat.le_of_ble_eq_true rfl), (Nat.le_of_ble_eq_true rfl)⟩ ?_
  apply Ev.getz
  intro hv9
  refine Ev.i2l (pc := 7) (n := (2, 12)) dL_growsTo_7 ?_
  refine Ev.last (pc := 8) (n := (2, 12)) dL_growsTo_8 ho (by omega) (by omega) hv9 ?_
  refine Ev.goto (pc := 9) (n := (2, 12)) (tgt := 18) dL_growsTo_9 rfl ?_
  refine Ev.iconst (pc := 18) (n := (2, 12)) dL_growsTo_18 ?_
  exact Ev.iret dL_growsTo_19 rfl ⟨(Nat.le_of_ble_eq_true rfl), (Nat.le_of_ble_eq_true rfl)⟩
theorem sL_growsTo_x0 {h h1 : zH} {a : Int} (h0 : h.1[0]? = some (3, 0)) (hz : Ev M_X6_growsTo 0 [(0, zr (some 0)), (1, zi a)] [] h (0, 0) (.inr 0, h1)) : Ev M_L_growsTo 0 [(0, zr (some 0)), (1, zi a), (2, zr (some 271))] [] h (0, 0) (.inl (some (zi 1)), h1) := by
  refine Ev.aload_n (pc := 0) (n := (0, 0)) (i := 2) dL_growsTo_0 rfl rfl ?_
  refine Ev.iconst (pc := 1) (n := (0, 0)) dL_growsTo_1 ?_
  refine Ev.aload_n (pc := 2) (n := (0, 0)) (i := 0) dL_growsTo_2 rfl rfl ?_
  refine Ev.iload_n (pc := 3) (n := (0, 0)) (i := 1) dL_growsTo_3 rfl rfl ?_
  exact Ev.callVC (pc := 4) (n := (0, 0)) (ob := 0) (as := [zi a]) (st := [zi 0, zr (some 271)]) (i := 3) (v := 1) hz dL_growsTo_4 ok_X6_growsTo (lk_L_63 rfl) ⟨(Nat.le_of_ble_eq_true rfl), (Nat.le_of_ble_eq_true rfl)⟩ h0 ⟨by decide, rfl⟩ rfl (Nat.le_of_ble_eq_true rfl) (Nat.le_of_ble_eq_true rfl) ⟨(Nat.le_of_ble_eq_true rfl), (Nat.le_of_ble_eq_true rfl)⟩ [] [(0, 9, 15, 17)] (a := 0) (b := 9) (hp := 12) (ct := 13) rfl (fun w hw => absurd hw List.not_mem_nil) ⟨by decide, by decide⟩ ⟨by decide, (zgw_in (List.mem_of_getElem? (i := 624) (by decide +kernel)) rfl)⟩ ⟨by decide, by decide⟩ ⟨(Nat.le_of_ble_eq_true rfl), 1, Or.inl ⟨⟨3, by decide⟩, rfl, rfl, dL_growsTo_12⟩, dL_growsTo_13, dL_growsTo_14⟩ rfl
theorem sL_growsTo_x2 {h h1 : zH} {a : Int} (h0 : h.1[0]? = some (3, 0)) (hz : Ev M_X6_growsTo 0 [(0, zr (some 0)), (1, zi a)] [] h (0, 0) (.inr 2, h1)) : Ev M_L_growsTo 0 [(0, zr (some 0)), (1, zi a), (2, zr (some 271))] [] h (0, 0) (.inl (some (zi 2)), h1) := by
  refine Ev.aload_n (pc := 0) (n := (0, 0)) (i := 2) dL_growsTo_0 rfl rfl ?_
  refine Ev.iconst (pc := 1) (n := (0, 0)) dL_growsTo_1 ?_
  refine Ev.aload_n (pc := 2) (n := (0, 0)) (i := 0) dL_growsTo_2 rfl rfl ?_
  refine Ev.iload_n (pc := 3) (n := (0, 0)) (i := 1) dL_growsTo_3 rfl rfl ?_
  exact Ev.callVC (pc := 4) (n := (0, 0)) (ob := 0) (as := [zi a]) (st := [zi 0, zr (some 271)]) (i := 3) (v := 2) hz dL_growsTo_4 ok_X6_growsTo (lk_L_63 rfl) ⟨(Nat.le_of_ble_eq_true rfl), (Nat.le_of_ble_eq_true rfl)⟩ h0 ⟨by decide, rfl⟩ rfl (Nat.le_of_ble_eq_true rfl) (Nat.le_of_ble_eq_true rfl) ⟨(Nat.le_of_ble_eq_true rfl), (Nat.le_of_ble_eq_true rfl)⟩ [(0, 9, 12, 13)] [] (a := 0) (b := 9) (hp := 15) (ct := 17) rfl (fun w hw => by
    simp only [List.mem_cons, List.not_mem_nil, or_false] at hw
    rcases hw with rfl
    · exact ⟨by decide, 0, by decide, by decide, (zgw_in (List.mem_of_getElem? (i := 624) (by decide +kernel)) rfl)⟩) ⟨by decide, by decide⟩ ⟨by decide, (zgw_in (List.mem_of_getElem? (i := 626) (by decide +kernel)) rfl)⟩ ⟨by decide, by decide⟩ ⟨(Nat.le_of_ble_eq_true rfl), 1, Or.inl ⟨⟨3, by decide⟩, rfl, rfl, dL_growsTo_15⟩, dL_growsTo_16, dL_growsTo_17⟩ rfl
theorem sL_slackIf {h h1 : zH} {a b : Int} {v : Int} (h0 : h.1[0]? = some (3, 0)) (ho : h1.1[271]? = some (9, 1)) (hz : Ev M_X6_slackIf 0 [(0, zr (some 0)), (1, zi a), (2, zi b)] [] h (0, 0) (.inl (some (zi v)), h1)) : Ev M_L_slackIf 0 [(0, zr (some 0)), (1, zi a), (2, zi b), (3, zr (some 271))] [] h (0, 0) (.inl (some (zi 0)), (h1.1, zup h1.2.1 271 0 v, h1.2.2)) := by
  refine Ev.aload_n (pc := 0) (n := (0, 0)) (i := 3) dL_slackIf_0 rfl rfl ?_
  refine Ev.iconst (pc := 1) (n := (0, 0)) dL_slackIf_1 ?_
  refine Ev.aload_n (pc := 2) (n := (0, 0)) (i := 0) dL_slackIf_2 rfl rfl ?_
  refine Ev.iload_n (pc := 3) (n := (0, 0)) (i := 1) dL_slackIf_3 rfl rfl ?_
  refine Ev.iload_n (pc := 4) (n := (0, 0)) (i := 2) dL_slackIf_4 rfl rfl ?_
  refine Ev.callV (pc := 5) (n := (0, 0)) (ob := 0) (as := [zi a, zi b]) (st := [zi 0, zr (some 271)]) (hz) dL_slackIf_5 ok_X6_slackIf (lk_L_66 rfl) ⟨(Nat.le_of_ble_eq_true rfl), (Nat.le_of_ble_eq_true rfl)⟩ h0 ⟨by decide, rfl⟩ rfl (Nat.le_of_ble_eq_true rfl) (Nat.le_of_ble_eq_true rfl) ⟨(Nat.le_of_ble_eq_true rfl), (Nat.le_of_ble_eq_true rfl)⟩ ?_
  apply Ev.getz
  intro hv9
  refine Ev.i2l (pc := 8) (n := (3, 18)) dL_slackIf_8 ?_
  refine Ev.last (pc := 9) (n := (3, 18)) dL_slackIf_9 ho (by omega) (by omega) hv9 ?_
  refine Ev.goto (pc := 10) (n := (3, 18)) (tgt := 21) dL_slackIf_10 rfl ?_
  refine Ev.iconst (pc := 21) (n := (3, 18)) dL_slackIf_21 ?_
  exact Ev.iret dL_slackIf_22 rfl ⟨(Nat.le_of_ble_eq_true rfl), (Nat.le_of_ble_eq_true rfl)⟩
theorem sL_slackIf_x0 {h h1 : zH} {a b : Int} (h0 : h.1[0]? = some (3, 0)) (hz : Ev M_X6_slackIf 0 [(0, zr (some 0)), (1, zi a), (2, zi b)] [] h (0, 0) (.inr 0, h1)) : Ev M_L_slackIf 0 [(0, zr (some 0)), (1, zi a), (2, zi b), (3, zr (some 271))] [] h (0, 0) (.inl (some (zi 1)), h1) := by
  refine Ev.aload_n (pc := 0) (n := (0, 0)) (i := 3) dL_slackIf_0 rfl rfl ?_
  refine Ev.iconst (pc := 1) (n := (0, 0)) dL_slackIf_1 ?_
  refine Ev.aload_n (pc := 2) (n := (0, 0)) (i := 0) dL_slackIf_2 rfl rfl ?_
  refine Ev.iload_n (pc := 3) (n := (0, 0)) (i := 1) dL_slackIf_3 rfl rfl ?_
  refine Ev.iload_n (pc := 4) (n := (0, 0)) (i := 2) dL_slackIf_4 rfl rfl ?_
  exact Ev.callVC (pc := 5) (n := (0, 0)) (ob := 0) (as := [zi a, zi b]) (st := [zi 0, zr (some 271)]) (i := 4) (v := 1) hz dL_slackIf_5 ok_X6_slackIf (lk_L_66 rfl) ⟨(Nat.le_of_ble_eq_true rfl), (Nat.le_of_ble_eq_true rfl)⟩ h0 ⟨by decide, rfl⟩ rfl (Nat.le_of_ble_eq_true rfl) (Nat.le_of_ble_eq_true rfl) ⟨(Nat.le_of_ble_eq_true rfl), (Nat.le_of_ble_eq_true rfl)⟩ [] [(0, 10, 17, 17)] (a := 0) (b := 10) (hp := 13) (ct := 13) rfl (fun w hw => absurd hw List.not_mem_nil) ⟨by decide, by decide⟩ ⟨by decide, (zgw_in (List.mem_of_getElem? (i := 624) (by decide +kernel)) rfl)⟩ ⟨by decide, by decide⟩ ⟨(Nat.le_of_ble_eq_true rfl), 2, Or.inr ⟨rfl, dL_slackIf_13⟩, dL_slackIf_15, dL_slackIf_16⟩ rfl
theorem sL_slackIf_x2 {h h1 : zH} {a b : Int} (h0 : h.1[0]? = some (3, 0)) (hz : Ev M_X6_slackIf 0 [(0, zr (some 0)), (1, zi a), (2, zi b)] [] h (0, 0) (.inr 2, h1)) : Ev M_L_slackIf 0 [(0, zr (some 0)), (1, zi a), (2, zi b), (3, zr (some 271))] [] h (0, 0) (.inl (some (zi 2)), h1) := by
  refine Ev.aload_n (pc := 0) (n := (0, 0)) (i := 3) dL_slackIf_0 rfl rfl ?_
  refine Ev.iconst (pc := 1) (n := (0, 0)) dL_slackIf_1 ?_
  refine Ev.aload_n (pc := 2) (n := (0, 0)) (i := 0) dL_slackIf_2 rfl rfl ?_
  refine Ev.iload_n (pc := 3) (n := (0, 0)) (i := 1) dL_slackIf_3 rfl rfl ?_
  refine Ev.iload_n (pc := 4) (n := (0, 0)) (i := 2) dL_slackIf_4 rfl rfl ?_
  exact Ev.callVC (pc := 5) (n := (0, 0)) (ob := 0) (as := [zi a, zi b]) (st := [zi 0, zr (some 271)]) (i := 4) (v := 2) hz dL_slackIf_5 ok_X6_slackIf (lk_L_66 rfl) ⟨(Nat.le_of_ble_eq_true rfl), (Nat.le_of_ble_eq_true rfl)⟩ h0 ⟨by decide, rfl⟩ rfl (Nat.le_of_ble_eq_true rfl) (Nat.le_of_ble_eq_true rfl) ⟨(Nat.le_of_ble_eq_true rfl), (Nat.le_of_ble_eq_true rfl)⟩ [(0, 10, 13, 13)] [] (a := 0) (b := 10) (hp := 17) (ct := 17) rfl (fun w hw => by
    simp only [List.mem_cons, List.not_mem_nil, or_false] at hw
    rcases hw with rfl
    · exact ⟨by decide, 0, by decide, by decide, (zgw_in (List.mem_of_getElem? (i := 624) (by decide +kernel)) rfl)⟩) ⟨by decide, by decide⟩ ⟨by decide, (zgw_in (List.mem_of_getElem? (i := 626) (by decide +kernel)) rfl)⟩ ⟨by decide, by decide⟩ ⟨(Nat.le_of_ble_eq_true rfl), 2, Or.inr ⟨rfl, dL_slackIf_17⟩, dL_slackIf_19, dL_slackIf_20⟩ rfl
theorem sL_reason {h h1 : zH} {a b : Int} {v : Int} (h0 : h.1[0]? = some (3, 0)) (ho : h1.1[271]? = some (9, 1)) (hz : Ev M_X6_reason 0 [(0, zr (some 0)), (1, zi a), (2, zi b)] [] h (0, 0) (.inl (some (zi v)), h1)) : Ev M_L_reason 0 [(0, zr (some 0)), (1, zi a), (2, zi b), (3, zr (some 271))] [] h (0, 0) (.inl (some (zi 0)), (h1.1, zup h1.2.1 271 0 v, h1.2.2)) := by
  refine Ev.aload_n (pc := 0) (n := (0, 0)) (i := 3) dL_reason_0 rfl rfl ?_
  refine Ev.iconst (pc := 1) (n := (0, 0)) dL_reason_1 ?_
  refine Ev.aload_n (pc := 2) (n := (0, 0)) (i := 0) dL_reason_2 rfl rfl ?_
  refine Ev.iload_n (pc := 3) (n := (0, 0)) (i := 1) dL_reason_3 rfl rfl ?_
  refine Ev.iload_n (pc := 4) (n := (0, 0)) (i := 2) dL_reason_4 rfl rfl ?_
  refine Ev.callV (pc := 5) (n := (0, 0)) (ob := 0) (as := [zi a, zi b]) (st := [zi 0, zr (some 271)]) (hz) dL_reason_5 ok_X6_reason (lk_L_69 rfl) ⟨(Nat.le_of_ble_eq_true rfl), (Nat.le_of_ble_eq_true rfl)⟩ h0 ⟨by decide, rfl⟩ rfl (Nat.le_of_ble_eq_true rfl) (Nat.le_of_ble_eq_true rfl) ⟨(Nat.le_of_ble_eq_true rfl), (Nat.le_of_ble_eq_true rfl)⟩ ?_
  apply Ev.getz
  intro hv9
  refine Ev.i2l (pc := 8) (n := (2, 12)) dL_reason_8 ?_
  refine Ev.last (pc := 9) (n := (2, 12)) dL_reason_9 ho (by omega) (by omega) hv9 ?_
  refine Ev.goto (pc := 10) (n := (2, 12)) (tgt := 17) dL_reason_10 rfl ?_
  refine Ev.iconst (pc := 17) (n := (2, 12)) dL_reason_17 ?_
  exact Ev.iret dL_reason_18 rfl ⟨(Nat.le_of_ble_eq_true rfl), (Nat.le_of_ble_eq_true rfl)⟩
theorem sL_reason_x0 {h h1 : zH} {a b : Int} (h0 : h.1[0]? = some (3, 0)) (hz : Ev M_X6_reason 0 [(0, zr (some 0)), (1, zi a), (2, zi b)] [] h (0, 0) (.inr 0, h1)) : Ev M_L_reason 0 [(0, zr (some 0)), (1, zi a), (2, zi b), (3, zr (some 271))] [] h (0, 0) (.inl (some (zi 1)), h1) := by
  refine Ev.aload_n (pc := 0) (n := (0, 0)) (i := 3) dL_reason_0 rfl rfl ?_
  refine Ev.iconst (pc := 1) (n := (0, 0)) dL_reason_1 ?_
  refine Ev.aload_n (pc := 2) (n := (0, 0)) (i := 0) dL_reason_2 rfl rfl ?_
  refine Ev.iload_n (pc := 3) (n := (0, 0)) (i := 1) dL_reason_3 rfl rfl ?_
  refine Ev.iload_n (pc := 4) (n := (0, 0)) (i := 2) dL_reason_4 rfl rfl ?_
  exact Ev.callVC (pc := 5) (n := (0, 0)) (ob := 0) (as := [zi a, zi b]) (st := [zi 0, zr (some 271)]) (i := 4) (v := 1) hz dL_reason_5 ok_X6_reason (lk_L_69 rfl) ⟨(Nat.le_of_ble_eq_true rfl), (Nat.le_of_ble_eq_true rfl)⟩ h0 ⟨by decide, rfl⟩ rfl (Nat.le_of_ble_eq_true rfl) (Nat.le_of_ble_eq_true rfl) ⟨(Nat.le_of_ble_eq_true rfl), (Nat.le_of_ble_eq_true rfl)⟩ [] [] (a := 0) (b := 10) (hp := 13) (ct := 13) rfl (fun w hw => absurd hw List.not_mem_nil) ⟨by decide, by decide⟩ ⟨by decide, (zgw_in (List.mem_of_getElem? (i := 624) (by decide +kernel)) rfl)⟩ ⟨by decide, by decide⟩ ⟨(Nat.le_of_ble_eq_true rfl), 2, Or.inr ⟨rfl, dL_reason_13⟩, dL_reason_15, dL_reason_16⟩ rfl
theorem sL_type {h h1 : zH} {a : Int} {v : Int} (h0 : h.1[0]? = some (3, 0)) (ho : h1.1[271]? = some (9, 1)) (hz : Ev M_X6_type 0 [(0, zr (some 0)), (1, zi a)] [] h (0, 0) (.inl (some (zi v)), h1)) : Ev M_L_type 0 [(0, zr (some 0)), (1, zi a), (2, zr (some 271))] [] h (0, 0) (.inl (some (zi 0)), (h1.1, zup h1.2.1 271 0 v, h1.2.2)) := by
  refine Ev.aload_n (pc := 0) (n := (0, 0)) (i := 2) dL_type_0 rfl rfl ?_
  refine Ev.iconst (pc := 1) (n := (0, 0)) dL_type_1 ?_
  refine Ev.aload_n (pc := 2) (n := (0, 0)) (i := 0) dL_type_2 rfl rfl ?_
  refine Ev.iload_n (pc := 3) (n := (0, 0)) (i := 1) dL_type_3 rfl rfl ?_
  refine Ev.callV (pc := 4) (n := (0, 0)) (ob := 0) (as := [zi a]) (st := [zi 0, zr (some 271)]) (hz) dL_type_4 ok_X6_type (lk_L_72 rfl) ⟨(Nat.le_of_ble_eq_true rfl), (Nat.le_of_ble_eq_true rfl)⟩ h0 ⟨by decide, rfl⟩ rfl (Nat.le_of_ble_eq_true rfl) (Nat.le_of_ble_eq_true rfl) ⟨(Nat.le_of_ble_eq_true rfl), (Nat.le_of_ble_eq_true rfl)⟩ ?_
  apply Ev.getz
  intro hv9
  refine Ev.i2l (pc := 7) (n := (2, 12)) dL_type_7 ?_
  refine Ev.last (pc := 8) (n := (2, 12)) dL_type_8 ho (by omega) (by omega) hv9 ?_
  refine Ev.goto (pc := 9) (n := (2, 12)) (tgt := 18) dL_type_9 rfl ?_
  refine Ev.iconst (pc := 18) (n := (2, 12)) dL_type_18 ?_
  exact Ev.iret dL_type_19 rfl ⟨(Nat.le_of_ble_eq_true rfl), (Nat.le_of_ble_eq_true rfl)⟩
theorem sL_type_x1 {h h1 : zH} {a : Int} (h0 : h.1[0]? = some (3, 0)) (hz : Ev M_X6_type 0 [(0, zr (some 0)), (1, zi a)] [] h (0, 0) (.inr 1, h1)) : Ev M_L_type 0 [(0, zr (some 0)), (1, zi a), (2, zr (some 271))] [] h (0, 0) (.inl (some (zi 1)), h1) := by
  refine Ev.aload_n (pc := 0) (n := (0, 0)) (i := 2) dL_type_0 rfl rfl ?_
  refine Ev.iconst (pc := 1) (n := (0, 0)) dL_type_1 ?_
  refine Ev.aload_n (pc := 2) (n := (0, 0)) (i := 0) dL_type_2 rfl rfl ?_
  refine Ev.iload_n (pc := 3) (n := (0, 0)) (i := 1) dL_type_3 rfl rfl ?_
  exact Ev.callVC (pc := 4) (n := (0, 0)) (ob := 0) (as := [zi a]) (st := [zi 0, zr (some 271)]) (i := 3) (v := 1) hz dL_type_4 ok_X6_type (lk_L_72 rfl) ⟨(Nat.le_of_ble_eq_true rfl), (Nat.le_of_ble_eq_true rfl)⟩ h0 ⟨by decide, rfl⟩ rfl (Nat.le_of_ble_eq_true rfl) (Nat.le_of_ble_eq_true rfl) ⟨(Nat.le_of_ble_eq_true rfl), (Nat.le_of_ble_eq_true rfl)⟩ [] [(0, 9, 15, 17)] (a := 0) (b := 9) (hp := 12) (ct := 15) rfl (fun w hw => absurd hw List.not_mem_nil) ⟨by decide, by decide⟩ ⟨by decide, (zgw_in (List.mem_of_getElem? (i := 625) (by decide +kernel)) rfl)⟩ ⟨by decide, by decide⟩ ⟨(Nat.le_of_ble_eq_true rfl), 1, Or.inl ⟨⟨3, by decide⟩, rfl, rfl, dL_type_12⟩, dL_type_13, dL_type_14⟩ rfl
theorem sL_type_x2 {h h1 : zH} {a : Int} (h0 : h.1[0]? = some (3, 0)) (hz : Ev M_X6_type 0 [(0, zr (some 0)), (1, zi a)] [] h (0, 0) (.inr 2, h1)) : Ev M_L_type 0 [(0, zr (some 0)), (1, zi a), (2, zr (some 271))] [] h (0, 0) (.inl (some (zi 2)), h1) := by
  refine Ev.aload_n (pc := 0) (n := (0, 0)) (i := 2) dL_type_0 rfl rfl ?_
  refine Ev.iconst (pc := 1) (n := (0, 0)) dL_type_1 ?_
  refine Ev.aload_n (pc := 2) (n := (0, 0)) (i := 0) dL_type_2 rfl rfl ?_
  refine Ev.iload_n (pc := 3) (n := (0, 0)) (i := 1) dL_type_3 rfl rfl ?_
  exact Ev.callVC (pc := 4) (n := (0, 0)) (ob := 0) (as := [zi a]) (st := [zi 0, zr (some 271)]) (i := 3) (v := 2) hz dL_type_4 ok_X6_type (lk_L_72 rfl) ⟨(Nat.le_of_ble_eq_true rfl), (Nat.le_of_ble_eq_true rfl)⟩ h0 ⟨by decide, rfl⟩ rfl (Nat.le_of_ble_eq_true rfl) (Nat.le_of_ble_eq_true rfl) ⟨(Nat.le_of_ble_eq_true rfl), (Nat.le_of_ble_eq_true rfl)⟩ [(0, 9, 12, 15)] [] (a := 0) (b := 9) (hp := 15) (ct := 17) rfl (fun w hw => by
    simp only [List.mem_cons, List.not_mem_nil, or_false] at hw
    rcases hw with rfl
    · exact ⟨by decide, 1, by decide, by decide, (zgw_in (List.mem_of_getElem? (i := 625) (by decide +kernel)) rfl)⟩) ⟨by decide, by decide⟩ ⟨by decide, (zgw_in (List.mem_of_getElem? (i := 626) (by decide +kernel)) rfl)⟩ ⟨by decide, by decide⟩ ⟨(Nat.le_of_ble_eq_true rfl), 1, Or.inl ⟨⟨3, by decide⟩, rfl, rfl, dL_type_15⟩, dL_type_16, dL_type_17⟩ rfl
theorem sL_undo {h h1 : zH} {v : Int} (h0 : h.1[0]? = some (3, 0)) (ho : h1.1[271]? = some (9, 1)) (hz : Ev M_X6_undo 0 [(0, zr (some 0))] [] h (0, 0) (.inl (some (zi v)), h1)) : Ev M_L_undo 0 [(0, zr (some 0)), (1, zr (some 271))] [] h (0, 0) (.inl (some (zi 0)), (h1.1, zup h1.2.1 271 0 v, h1.2.2)) := by
  refine Ev.aload_n (pc := 0) (n := (0, 0)) (i := 1) dL_undo_0 rfl rfl ?_
  refine Ev.iconst (pc := 1) (n := (0, 0)) dL_undo_1 ?_
  refine Ev.aload_n (pc := 2) (n := (0, 0)) (i := 0) dL_undo_2 rfl rfl ?_
  refine Ev.callV (pc := 3) (n := (0, 0)) (ob := 0) (as := []) (st := [zi 0, zr (some 271)]) (hz) dL_undo_3 ok_X6_undo (lk_L_75 rfl) ⟨(Nat.le_of_ble_eq_true rfl), (Nat.le_of_ble_eq_true rfl)⟩ h0 ⟨by decide, rfl⟩ rfl (Nat.le_of_ble_eq_true rfl) (Nat.le_of_ble_eq_true rfl) ⟨(Nat.le_of_ble_eq_true rfl), (Nat.le_of_ble_eq_true rfl)⟩ ?_
  apply Ev.getz
  intro hv9
  refine Ev.i2l (pc := 6) (n := (1, 6)) dL_undo_6 ?_
  refine Ev.last (pc := 7) (n := (1, 6)) dL_undo_7 ho (by omega) (by omega) hv9 ?_
  refine Ev.goto (pc := 8) (n := (1, 6)) (tgt := 14) dL_undo_8 rfl ?_
  refine Ev.iconst (pc := 14) (n := (1, 6)) dL_undo_14 ?_
  exact Ev.iret dL_undo_15 rfl ⟨(Nat.le_of_ble_eq_true rfl), (Nat.le_of_ble_eq_true rfl)⟩
theorem sL_undo_x2 {h h1 : zH} (h0 : h.1[0]? = some (3, 0)) (hz : Ev M_X6_undo 0 [(0, zr (some 0))] [] h (0, 0) (.inr 2, h1)) : Ev M_L_undo 0 [(0, zr (some 0)), (1, zr (some 271))] [] h (0, 0) (.inl (some (zi 1)), h1) := by
  refine Ev.aload_n (pc := 0) (n := (0, 0)) (i := 1) dL_undo_0 rfl rfl ?_
  refine Ev.iconst (pc := 1) (n := (0, 0)) dL_undo_1 ?_
  refine Ev.aload_n (pc := 2) (n := (0, 0)) (i := 0) dL_undo_2 rfl rfl ?_
  exact Ev.callVC (pc := 3) (n := (0, 0)) (ob := 0) (as := []) (st := [zi 0, zr (some 271)]) (i := 2) (v := 1) hz dL_undo_3 ok_X6_undo (lk_L_75 rfl) ⟨(Nat.le_of_ble_eq_true rfl), (Nat.le_of_ble_eq_true rfl)⟩ h0 ⟨by decide, rfl⟩ rfl (Nat.le_of_ble_eq_true rfl) (Nat.le_of_ble_eq_true rfl) ⟨(Nat.le_of_ble_eq_true rfl), (Nat.le_of_ble_eq_true rfl)⟩ [] [] (a := 0) (b := 8) (hp := 11) (ct := 17) rfl (fun w hw => absurd hw List.not_mem_nil) ⟨by decide, by decide⟩ ⟨by decide, (zgw_in (List.mem_of_getElem? (i := 626) (by decide +kernel)) rfl)⟩ ⟨by decide, by decide⟩ ⟨(Nat.le_of_ble_eq_true rfl), 1, Or.inl ⟨⟨2, by decide⟩, rfl, rfl, dL_undo_11⟩, dL_undo_12, dL_undo_13⟩ rfl
theorem sX_addGroup {h h1 : zH} {a b : Int} {v : Int} (h0 : h.1[0]? = some (3, 0)) (hz : Ev M_X6_change 0 [(0, zr (some 0)), (1, zr (some (4096 + 0))), (2, zi a), (3, zi b), (4, zi 0)] [] h (0, 0) (.inl (some (zi v)), h1)) : Ev M_X6_addGroup 0 [(0, zr (some 0)), (1, zi a), (2, zi b)] [] h (0, 0) (.inl (some (zi v)), h1) := by
  refine Ev.aload_n (pc := 0) (n := (0, 0)) (i := 0) dX6_addGroup_0 rfl rfl ?_
  refine Ev.gsC (pc := 1) (n := (0, 0)) (i := 0) dX6_addGroup_1 (by decide) (zgw_in (List.mem_of_getElem? (i := 631) (by decide +kernel)) rfl) ?_
  refine Ev.iload_n (pc := 4) (n := (0, 0)) (i := 1) dX6_addGroup_4 rfl rfl ?_
  refine Ev.iload_n (pc := 5) (n := (0, 0)) (i := 2) dX6_addGroup_5 rfl rfl ?_
  refine Ev.iconst (pc := 6) (n := (0, 0)) dX6_addGroup_6 ?_
  refine Ev.callV (pc := 7) (n := (0, 0)) (ob := 0) (as := [zr (some (4096 + 0)), zi a, zi b, zi 0]) (st := []) (hz) dX6_addGroup_7 ok_X6_change (lk_X6_37 rfl) ⟨(Nat.le_of_ble_eq_true rfl), (Nat.le_of_ble_eq_true rfl)⟩ h0 ⟨by decide, rfl⟩ rfl (Nat.le_of_ble_eq_true rfl) (Nat.le_of_ble_eq_true rfl) ⟨(Nat.le_of_ble_eq_true rfl), (Nat.le_of_ble_eq_true rfl)⟩ ?_
  exact Ev.iret dX6_addGroup_10 rfl ⟨(Nat.le_of_ble_eq_true rfl), (Nat.le_of_ble_eq_true rfl)⟩
theorem sX_addGroup_x {h h1 : zH} {a b : Int} {k : Nat} (h0 : h.1[0]? = some (3, 0)) (hz : Ev M_X6_change 0 [(0, zr (some 0)), (1, zr (some (4096 + 0))), (2, zi a), (3, zi b), (4, zi 0)] [] h (0, 0) (.inr k, h1)) : Ev M_X6_addGroup 0 [(0, zr (some 0)), (1, zi a), (2, zi b)] [] h (0, 0) (.inr k, h1) := by
  refine Ev.aload_n (pc := 0) (n := (0, 0)) (i := 0) dX6_addGroup_0 rfl rfl ?_
  refine Ev.gsC (pc := 1) (n := (0, 0)) (i := 0) dX6_addGroup_1 (by decide) (zgw_in (List.mem_of_getElem? (i := 631) (by decide +kernel)) rfl) ?_
  refine Ev.iload_n (pc := 4) (n := (0, 0)) (i := 1) dX6_addGroup_4 rfl rfl ?_
  refine Ev.iload_n (pc := 5) (n := (0, 0)) (i := 2) dX6_addGroup_5 rfl rfl ?_
  refine Ev.iconst (pc := 6) (n := (0, 0)) dX6_addGroup_6 ?_
  exact Ev.callVX (pc := 7) (n := (0, 0)) (ob := 0) (as := [zr (some (4096 + 0)), zi a, zi b, zi 0]) (st := []) (hz) dX6_addGroup_7 ok_X6_change (lk_X6_37 rfl) ⟨(Nat.le_of_ble_eq_true rfl), (Nat.le_of_ble_eq_true rfl)⟩ h0 ⟨by decide, rfl⟩ rfl (Nat.le_of_ble_eq_true rfl) (Nat.le_of_ble_eq_true rfl) ⟨(Nat.le_of_ble_eq_true rfl), (Nat.le_of_ble_eq_true rfl)⟩ rfl
theorem sX_addTask {h h1 : zH} {a b c : Int} {v : Int} (h0 : h.1[0]? = some (3, 0)) (hz : Ev M_X6_change 0 [(0, zr (some 0)), (1, zr (some (4096 + 1))), (2, zi a), (3, zi b), (4, zi c)] [] h (0, 0) (.inl (some (zi v)), h1)) : Ev M_X6_addTask 0 [(0, zr (some 0)), (1, zi a), (2, zi b), (3, zi c)] [] h (0, 0) (.inl (some (zi v)), h1) := by
  refine Ev.aload_n (pc := 0) (n := (0, 0)) (i := 0) dX6_addTask_0 rfl rfl ?_
  refine Ev.gsC (pc := 1) (n := (0, 0)) (i := 1) dX6_addTask_1 (by decide) (zgw_in (List.mem_of_getElem? (i := 750) (by decide +kernel)) rfl) ?_
  refine Ev.iload_n (pc := 4) (n := (0, 0)) (i := 1) dX6_addTask_4 rfl rfl ?_
  refine Ev.iload_n (pc := 5) (n := (0, 0)) (i := 2) dX6_addTask_5 rfl rfl ?_
  refine Ev.iload_n (pc := 6) (n := (0, 0)) (i := 3) dX6_addTask_6 rfl rfl ?_
  refine Ev.callV (pc := 7) (n := (0, 0)) (ob := 0) (as := [zr (some (4096 + 1)), zi a, zi b, zi c]) (st := []) (hz) dX6_addTask_7 ok_X6_change (lk_X6_37 rfl) ⟨(Nat.le_of_ble_eq_true rfl), (Nat.le_of_ble_eq_true rfl)⟩ h0 ⟨by decide, rfl⟩ rfl (Nat.le_of_ble_eq_true rfl) (Nat.le_of_ble_eq_true rfl) ⟨(Nat.le_of_ble_eq_true rfl), (Nat.le_of_ble_eq_true rfl)⟩ ?_
  exact Ev.iret dX6_addTask_10 rfl ⟨(Nat.le_of_ble_eq_true rfl), (Nat.le_of_ble_eq_true rfl)⟩
theorem sX_addTask_x {h h1 : zH} {a b c : Int} {k : Nat} (h0 : h.1[0]? = some (3, 0)) (hz : Ev M_X6_change 0 [(0, zr (some 0)), (1, zr (some (4096 + 1))), (2, zi a), (3, zi b), (4, zi c)] [] h (0, 0) (.inr k, h1)) : Ev M_X6_addTask 0 [(0, zr (some 0)), (1, zi a), (2, zi b), (3, zi c)] [] h (0, 0) (.inr k, h1) := by
  refine Ev.aload_n (pc := 0) (n := (0, 0)) (i := 0) dX6_addTask_0 rfl rfl ?_
  refine Ev.gsC (pc := 1) (n := (0, 0)) (i := 1) dX6_addTask_1 (by decide) (zgw_in (List.mem_of_getElem? (i := 750) (by decide +kernel)) rfl) ?_
  refine Ev.iload_n (pc := 4) (n := (0, 0)) (i := 1) dX6_addTask_4 rfl rfl ?_
  refine Ev.iload_n (pc := 5) (n := (0, 0)) (i := 2) dX6_addTask_5 rfl rfl ?_
  refine Ev.iload_n (pc := 6) (n := (0, 0)) (i := 3) dX6_addTask_6 rfl rfl ?_
  exact Ev.callVX (pc := 7) (n := (0, 0)) (ob := 0) (as := [zr (some (4096 + 1)), zi a, zi b, zi c]) (st := []) (hz) dX6_addTask_7 ok_X6_change (lk_X6_37 rfl) ⟨(Nat.le_of_ble_eq_true rfl), (Nat.le_of_ble_eq_true rfl)⟩ h0 ⟨by decide, rfl⟩ rfl (Nat.le_of_ble_eq_true rfl) (Nat.le_of_ble_eq_true rfl) ⟨(Nat.le_of_ble_eq_true rfl), (Nat.le_of_ble_eq_true rfl)⟩ rfl
theorem sX_move {h h1 : zH} {a b c : Int} {v : Int} (h0 : h.1[0]? = some (3, 0)) (hz : Ev M_X6_change 0 [(0, zr (some 0)), (1, zr (some (4096 + 5))), (2, zi a), (3, zi b), (4, zi c)] [] h (0, 0) (.inl (some (zi v)), h1)) : Ev M_X6_move 0 [(0, zr (some 0)), (1, zi a), (2, zi b), (3, zi c)] [] h (0, 0) (.inl (some (zi v)), h1) := by
  refine Ev.aload_n (pc := 0) (n := (0, 0)) (i := 0) dX6_move_0 rfl rfl ?_
  refine Ev.gsC (pc := 1) (n := (0, 0)) (i := 5) dX6_move_1 (by decide) (zgw_in (List.mem_of_getElem? (i := 759) (by decide +kernel)) rfl) ?_
  refine Ev.iload_n (pc := 4) (n := (0, 0)) (i := 1) dX6_move_4 rfl rfl ?_
  refine Ev.iload_n (pc := 5) (n := (0, 0)) (i := 2) dX6_move_5 rfl rfl ?_
  refine Ev.iload_n (pc := 6) (n := (0, 0)) (i := 3) dX6_move_6 rfl rfl ?_
  refine Ev.callV (pc := 7) (n := (0, 0)) (ob := 0) (as := [zr (some (4096 + 5)), zi a, zi b, zi c]) (st := []) (hz) dX6_move_7 ok_X6_change (lk_X6_37 rfl) ⟨(Nat.le_of_ble_eq_true rfl), (Nat.le_of_ble_eq_true rfl)⟩ h0 ⟨by decide, rfl⟩ rfl (Nat.le_of_ble_eq_true rfl) (Nat.le_of_ble_eq_true rfl) ⟨(Nat.le_of_ble_eq_true rfl), (Nat.le_of_ble_eq_true rfl)⟩ ?_
  exact Ev.iret dX6_move_10 rfl ⟨(Nat.le_of_ble_eq_true rfl), (Nat.le_of_ble_eq_true rfl)⟩
theorem sX_move_x {h h1 : zH} {a b c : Int} {k : Nat} (h0 : h.1[0]? = some (3, 0)) (hz : Ev M_X6_change 0 [(0, zr (some 0)), (1, zr (some (4096 + 5))), (2, zi a), (3, zi b), (4, zi c)] [] h (0, 0) (.inr k, h1)) : Ev M_X6_move 0 [(0, zr (some 0)), (1, zi a), (2, zi b), (3, zi c)] [] h (0, 0) (.inr k, h1) := by
  refine Ev.aload_n (pc := 0) (n := (0, 0)) (i := 0) dX6_move_0 rfl rfl ?_
  refine Ev.gsC (pc := 1) (n := (0, 0)) (i := 5) dX6_move_1 (by decide) (zgw_in (List.mem_of_getElem? (i := 759) (by decide +kernel)) rfl) ?_
  refine Ev.iload_n (pc := 4) (n := (0, 0)) (i := 1) dX6_move_4 rfl rfl ?_
  refine Ev.iload_n (pc := 5) (n := (0, 0)) (i := 2) dX6_move_5 rfl rfl ?_
  refine Ev.iload_n (pc := 6) (n := (0, 0)) (i := 3) dX6_move_6 rfl rfl ?_
  exact Ev.callVX (pc := 7) (n := (0, 0)) (ob := 0) (as := [zr (some (4096 + 5)), zi a, zi b, zi c]) (st := []) (hz) dX6_move_7 ok_X6_change (lk_X6_37 rfl) ⟨(Nat.le_of_ble_eq_true rfl), (Nat.le_of_ble_eq_true rfl)⟩ h0 ⟨by decide, rfl⟩ rfl (Nat.le_of_ble_eq_true rfl) (Nat.le_of_ble_eq_true rfl) ⟨(Nat.le_of_ble_eq_true rfl), (Nat.le_of_ble_eq_true rfl)⟩ rfl
theorem sX_remove {h h1 : zH} {a : Int} {v : Int} (h0 : h.1[0]? = some (3, 0)) (hz : Ev M_X6_change 0 [(0, zr (some 0)), (1, zr (some (4096 + 6))), (2, zi a), (3, zi 0), (4, zi 0)] [] h (0, 0) (.inl (some (zi v)), h1)) : Ev M_X6_remove 0 [(0, zr (some 0)), (1, zi a)] [] h (0, 0) (.inl (some (zi v)), h1) := by
  refine Ev.aload_n (pc := 0) (n := (0, 0)) (i := 0) dX6_remove_0 rfl rfl ?_
  refine Ev.gsC (pc := 1) (n := (0, 0)) (i := 6) dX6_remove_1 (by decide) (zgw_in (List.mem_of_getElem? (i := 767) (by decide +kernel)) rfl) ?_
  refine Ev.iload_n (pc := 4) (n := (0, 0)) (i := 1) dX6_remove_4 rfl rfl ?_
  refine Ev.iconst (pc := 5) (n := (0, 0)) dX6_remove_5 ?_
  refine Ev.iconst (pc := 6) (n := (0, 0)) dX6_remove_6 ?_
  refine Ev.callV (pc := 7) (n := (0, 0)) (ob := 0) (as := [zr (some (4096 + 6)), zi a, zi 0, zi 0]) (st := []) (hz) dX6_remove_7 ok_X6_change (lk_X6_37 rfl) ⟨(Nat.le_of_ble_eq_true rfl), (Nat.le_of_ble_eq_true rfl)⟩ h0 ⟨by decide, rfl⟩ rfl (Nat.le_of_ble_eq_true rfl) (Nat.le_of_ble_eq_true rfl) ⟨(Nat.le_of_ble_eq_true rfl), (Nat.le_of_ble_eq_true rfl)⟩ ?_
  exact Ev.iret dX6_remove_10 rfl ⟨(Nat.le_of_ble_eq_true rfl), (Nat.le_of_ble_eq_true rfl)⟩
theorem sX_remove_x {h h1 : zH} {a : Int} {k : Nat} (h0 : h.1[0]? = some (3, 0)) (hz : Ev M_X6_change 0 [(0, zr (some 0)), (1, zr (some (4096 + 6))), (2, zi a), (3, zi 0), (4, zi 0)] [] h (0, 0) (.inr k, h1)) : Ev M_X6_remove 0 [(0, zr (some 0)), (1, zi a)] [] h (0, 0) (.inr k, h1) := by
  refine Ev.aload_n (pc := 0) (n := (0, 0)) (i := 0) dX6_remove_0 rfl rfl ?_
  refine Ev.gsC (pc := 1) (n := (0, 0)) (i := 6) dX6_remove_1 (by decide) (zgw_in (List.mem_of_getElem? (i := 767) (by decide +kernel)) rfl) ?_
  refine Ev.iload_n (pc := 4) (n := (0, 0)) (i := 1) dX6_remove_4 rfl rfl ?_
  refine Ev.iconst (pc := 5) (n := (0, 0)) dX6_remove_5 ?_
  refine Ev.iconst (pc := 6) (n := (0, 0)) dX6_remove_6 ?_
  exact Ev.callVX (pc := 7) (n := (0, 0)) (ob := 0) (as := [zr (some (4096 + 6)), zi a, zi 0, zi 0]) (st := []) (hz) dX6_remove_7 ok_X6_change (lk_X6_37 rfl) ⟨(Nat.le_of_ble_eq_true rfl), (Nat.le_of_ble_eq_true rfl)⟩ h0 ⟨by decide, rfl⟩ rfl (Nat.le_of_ble_eq_true rfl) (Nat.le_of_ble_eq_true rfl) ⟨(Nat.le_of_ble_eq_true rfl), (Nat.le_of_ble_eq_true rfl)⟩ rfl
theorem sX_setDuration {h h1 : zH} {a b : Int} {v : Int} (h0 : h.1[0]? = some (3, 0)) (hz : Ev M_X6_change 0 [(0, zr (some 0)), (1, zr (some (4096 + 2))), (2, zi a), (3, zi b), (4, zi 0)] [] h (0, 0) (.inl (some (zi v)), h1)) : Ev M_X6_setDuration 0 [(0, zr (some 0)), (1, zi a), (2, zi b)] [] h (0, 0) (.inl (some (zi v)), h1) := by
  refine Ev.aload_n (pc := 0) (n := (0, 0)) (i := 0) dX6_setDuration_0 rfl rfl ?_
  refine Ev.gsC (pc := 1) (n := (0, 0)) (i := 2) dX6_setDuration_1 (by decide) (zgw_in (List.mem_of_getElem? (i := 776) (by decide +kernel)) rfl) ?_
  refine Ev.iload_n (pc := 4) (n := (0, 0)) (i := 1) dX6_setDuration_4 rfl rfl ?_
  refine Ev.iload_n (pc := 5) (n := (0, 0)) (i := 2) dX6_setDuration_5 rfl rfl ?_
  refine Ev.iconst (pc := 6) (n := (0, 0)) dX6_setDuration_6 ?_
  refine Ev.callV (pc := 7) (n := (0, 0)) (ob := 0) (as := [zr (some (4096 + 2)), zi a, zi b, zi 0]) (st := []) (hz) dX6_setDuration_7 ok_X6_change (lk_X6_37 rfl) ⟨(Nat.le_of_ble_eq_true rfl), (Nat.le_of_ble_eq_true rfl)⟩ h0 ⟨by decide, rfl⟩ rfl (Nat.le_of_ble_eq_true rfl) (Nat.le_of_ble_eq_true rfl) ⟨(Nat.le_of_ble_eq_true rfl), (Nat.le_of_ble_eq_true rfl)⟩ ?_
  exact Ev.iret dX6_setDuration_10 rfl ⟨(Nat.le_of_ble_eq_true rfl), (Nat.le_of_ble_eq_true rfl)⟩
theorem sX_setDuration_x {h h1 : zH} {a b : Int} {k : Nat} (h0 : h.1[0]? = some (3, 0)) (hz : Ev M_X6_change 0 [(0, zr (some 0)), (1, zr (some (4096 + 2))), (2, zi a), (3, zi b), (4, zi 0)] [] h (0, 0) (.inr k, h1)) : Ev M_X6_setDuration 0 [(0, zr (some 0)), (1, zi a), (2, zi b)] [] h (0, 0) (.inr k, h1) := by
  refine Ev.aload_n (pc := 0) (n := (0, 0)) (i := 0) dX6_setDuration_0 rfl rfl ?_
  refine Ev.gsC (pc := 1) (n := (0, 0)) (i := 2) dX6_setDuration_1 (by decide) (zgw_in (List.mem_of_getElem? (i := 776) (by decide +kernel)) rfl) ?_
  refine Ev.iload_n (pc := 4) (n := (0, 0)) (i := 1) dX6_setDuration_4 rfl rfl ?_
  refine Ev.iload_n (pc := 5) (n := (0, 0)) (i := 2) dX6_setDuration_5 rfl rfl ?_
  refine Ev.iconst (pc := 6) (n := (0, 0)) dX6_setDuration_6 ?_
  exact Ev.callVX (pc := 7) (n := (0, 0)) (ob := 0) (as := [zr (some (4096 + 2)), zi a, zi b, zi 0]) (st := []) (hz) dX6_setDuration_7 ok_X6_change (lk_X6_37 rfl) ⟨(Nat.le_of_ble_eq_true rfl), (Nat.le_of_ble_eq_true rfl)⟩ h0 ⟨by decide, rfl⟩ rfl (Nat.le_of_ble_eq_true rfl) (Nat.le_of_ble_eq_true rfl) ⟨(Nat.le_of_ble_eq_true rfl), (Nat.le_of_ble_eq_true rfl)⟩ rfl
theorem sX_borrow {h h1 : zH} {a b : Int} {v : Int} (h0 : h.1[0]? = some (3, 0)) (hz : Ev M_X6_change 0 [(0, zr (some 0)), (1, zr (some (4096 + 3))), (2, zi a), (3, zi b), (4, zi 0)] [] h (0, 0) (.inl (some (zi v)), h1)) : Ev M_X6_borrow 0 [(0, zr (some 0)), (1, zi a), (2, zi b)] [] h (0, 0) (.inl (some (zi v)), h1) := by
  refine Ev.aload_n (pc := 0) (n := (0, 0)) (i := 0) dX6_borrow_0 rfl rfl ?_
  refine Ev.gsC (pc := 1) (n := (0, 0)) (i := 3) dX6_borrow_1 (by decide) (zgw_in (List.mem_of_getElem? (i := 785) (by decide +kernel)) rfl) ?_
  refine Ev.iload_n (pc := 4) (n := (0, 0)) (i := 1) dX6_borrow_4 rfl rfl ?_
  refine Ev.iload_n (pc := 5) (n := (0, 0)) (i := 2) dX6_borrow_5 rfl rfl ?_
  refine Ev.iconst (pc := 6) (n := (0, 0)) dX6_borrow_6 ?_
  refine Ev.callV (pc := 7) (n := (0, 0)) (ob := 0) (as := [zr (some (4096 + 3)), zi a, zi b, zi 0]) (st := []) (hz) dX6_borrow_7 ok_X6_change (lk_X6_37 rfl) ⟨(Nat.le_of_ble_eq_true rfl), (Nat.le_of_ble_eq_true rfl)⟩ h0 ⟨by decide, rfl⟩ rfl (Nat.le_of_ble_eq_true rfl) (Nat.le_of_ble_eq_true rfl) ⟨(Nat.le_of_ble_eq_true rfl), (Nat.le_of_ble_eq_true rfl)⟩ ?_
  exact Ev.iret dX6_borrow_10 rfl ⟨(Nat.le_of_ble_eq_true rfl), (Nat.le_of_ble_eq_true rfl)⟩
theorem sX_borrow_x {h h1 : zH} {a b : Int} {k : Nat} (h0 : h.1[0]? = some (3, 0)) (hz : Ev M_X6_change 0 [(0, zr (some 0)), (1, zr (some (4096 + 3))), (2, zi a), (3, zi b), (4, zi 0)] [] h (0, 0) (.inr k, h1)) : Ev M_X6_borrow 0 [(0, zr (some 0)), (1, zi a), (2, zi b)] [] h (0, 0) (.inr k, h1) := by
  refine Ev.aload_n (pc := 0) (n := (0, 0)) (i := 0) dX6_borrow_0 rfl rfl ?_
  refine Ev.gsC (pc := 1) (n := (0, 0)) (i := 3) dX6_borrow_1 (by decide) (zgw_in (List.mem_of_getElem? (i := 785) (by decide +kernel)) rfl) ?_
  refine Ev.iload_n (pc := 4) (n := (0, 0)) (i := 1) dX6_borrow_4 rfl rfl ?_
  refine Ev.iload_n (pc := 5) (n := (0, 0)) (i := 2) dX6_borrow_5 rfl rfl ?_
  refine Ev.iconst (pc := 6) (n := (0, 0)) dX6_borrow_6 ?_
  exact Ev.callVX (pc := 7) (n := (0, 0)) (ob := 0) (as := [zr (some (4096 + 3)), zi a, zi b, zi 0]) (st := []) (hz) dX6_borrow_7 ok_X6_change (lk_X6_37 rfl) ⟨(Nat.le_of_ble_eq_true rfl), (Nat.le_of_ble_eq_true rfl)⟩ h0 ⟨by decide, rfl⟩ rfl (Nat.le_of_ble_eq_true rfl) (Nat.le_of_ble_eq_true rfl) ⟨(Nat.le_of_ble_eq_true rfl), (Nat.le_of_ble_eq_true rfl)⟩ rfl
theorem sX_giveBack {h h1 : zH} {a b : Int} {v : Int} (h0 : h.1[0]? = some (3, 0)) (hz : Ev M_X6_change 0 [(0, zr (some 0)), (1, zr (some (4096 + 4))), (2, zi a), (3, zi b), (4, zi 0)] [] h (0, 0) (.inl (some (zi v)), h1)) : Ev M_X6_giveBack 0 [(0, zr (some 0)), (1, zi a), (2, zi b)] [] h (0, 0) (.inl (some (zi v)), h1) := by
  refine Ev.aload_n (pc := 0) (n := (0, 0)) (i := 0) dX6_giveBack_0 rfl rfl ?_
  refine Ev.gsC (pc := 1) (n := (0, 0)) (i := 4) dX6_giveBack_1 (by decide) (zgw_in (List.mem_of_getElem? (i := 794) (by decide +kernel)) rfl) ?_
  refine Ev.iload_n (pc := 4) (n := (0, 0)) (i := 1) dX6_giveBack_4 rfl rfl ?_
  refine Ev.iload_n (pc := 5) (n := (0, 0)) (i := 2) dX6_giveBack_5 rfl rfl ?_
  refine Ev.iconst (pc := 6) (n := (0, 0)) dX6_giveBack_6 ?_
  refine Ev.callV (pc := 7) (n := (0, 0)) (ob := 0) (as := [zr (some (4096 + 4)), zi a, zi b, zi 0]) (st := []) (hz) dX6_giveBack_7 ok_X6_change (lk_X6_37 rfl) ⟨(Nat.le_of_ble_eq_true rfl), (Nat.le_of_ble_eq_true rfl)⟩ h0 ⟨by decide, rfl⟩ rfl (Nat.le_of_ble_eq_true rfl) (Nat.le_of_ble_eq_true rfl) ⟨(Nat.le_of_ble_eq_true rfl), (Nat.le_of_ble_eq_true rfl)⟩ ?_
  exact Ev.iret dX6_giveBack_10 rfl ⟨(Nat.le_of_ble_eq_true rfl), (Nat.le_of_ble_eq_true rfl)⟩
theorem sX_giveBack_x {h h1 : zH} {a b : Int} {k : Nat} (h0 : h.1[0]? = some (3, 0)) (hz : Ev M_X6_change 0 [(0, zr (some 0)), (1, zr (some (4096 + 4))), (2, zi a), (3, zi b), (4, zi 0)] [] h (0, 0) (.inr k, h1)) : Ev M_X6_giveBack 0 [(0, zr (some 0)), (1, zi a), (2, zi b)] [] h (0, 0) (.inr k, h1) := by
  refine Ev.aload_n (pc := 0) (n := (0, 0)) (i := 0) dX6_giveBack_0 rfl rfl ?_
  refine Ev.gsC (pc := 1) (n := (0, 0)) (i := 4) dX6_giveBack_1 (by decide) (zgw_in (List.mem_of_getElem? (i := 794) (by decide +kernel)) rfl) ?_
  refine Ev.iload_n (pc := 4) (n := (0, 0)) (i := 1) dX6_giveBack_4 rfl rfl ?_
  refine Ev.iload_n (pc := 5) (n := (0, 0)) (i := 2) dX6_giveBack_5 rfl rfl ?_
  refine Ev.iconst (pc := 6) (n := (0, 0)) dX6_giveBack_6 ?_
  exact Ev.callVX (pc := 7) (n := (0, 0)) (ob := 0) (as := [zr (some (4096 + 4)), zi a, zi b, zi 0]) (st := []) (hz) dX6_giveBack_7 ok_X6_change (lk_X6_37 rfl) ⟨(Nat.le_of_ble_eq_true rfl), (Nat.le_of_ble_eq_true rfl)⟩ h0 ⟨by decide, rfl⟩ rfl (Nat.le_of_ble_eq_true rfl) (Nat.le_of_ble_eq_true rfl) ⟨(Nat.le_of_ble_eq_true rfl), (Nat.le_of_ble_eq_true rfl)⟩ rfl
theorem sX_setDeadline {h h1 : zH} {a : Int} {v : Int} (h0 : h.1[0]? = some (3, 0)) (hz : Ev M_X6_change 0 [(0, zr (some 0)), (1, zr (some (4096 + 7))), (2, zi a), (3, zi 0), (4, zi 0)] [] h (0, 0) (.inl (some (zi v)), h1)) : Ev M_X6_setDeadline 0 [(0, zr (some 0)), (1, zi a)] [] h (0, 0) (.inl (some (zi v)), h1) := by
  refine Ev.aload_n (pc := 0) (n := (0, 0)) (i := 0) dX6_setDeadline_0 rfl rfl ?_
  refine Ev.gsC (pc := 1) (n := (0, 0)) (i := 7) dX6_setDeadline_1 (by decide) (zgw_in (List.mem_of_getElem? (i := 803) (by decide +kernel)) rfl) ?_
  refine Ev.iload_n (pc := 4) (n := (0, 0)) (i := 1) dX6_setDeadline_4 rfl rfl ?_
  refine Ev.iconst (pc := 5) (n := (0, 0)) dX6_setDeadline_5 ?_
  refine Ev.iconst (pc := 6) (n := (0, 0)) dX6_setDeadline_6 ?_
  refine Ev.callV (pc := 7) (n := (0, 0)) (ob := 0) (as := [zr (some (4096 + 7)), zi a, zi 0, zi 0]) (st := []) (hz) dX6_setDeadline_7 ok_X6_change (lk_X6_37 rfl) ⟨(Nat.le_of_ble_eq_true rfl), (Nat.le_of_ble_eq_true rfl)⟩ h0 ⟨by decide, rfl⟩ rfl (Nat.le_of_ble_eq_true rfl) (Nat.le_of_ble_eq_true rfl) ⟨(Nat.le_of_ble_eq_true rfl), (Nat.le_of_ble_eq_true rfl)⟩ ?_
  exact Ev.iret dX6_setDeadline_10 rfl ⟨(Nat.le_of_ble_eq_true rfl), (Nat.le_of_ble_eq_true rfl)⟩
theorem sX_setDeadline_x {h h1 : zH} {a : Int} {k : Nat} (h0 : h.1[0]? = some (3, 0)) (hz : Ev M_X6_change 0 [(0, zr (some 0)), (1, zr (some (4096 + 7))), (2, zi a), (3, zi 0), (4, zi 0)] [] h (0, 0) (.inr k, h1)) : Ev M_X6_setDeadline 0 [(0, zr (some 0)), (1, zi a)] [] h (0, 0) (.inr k, h1) := by
  refine Ev.aload_n (pc := 0) (n := (0, 0)) (i := 0) dX6_setDeadline_0 rfl rfl ?_
  refine Ev.gsC (pc := 1) (n := (0, 0)) (i := 7) dX6_setDeadline_1 (by decide) (zgw_in (List.mem_of_getElem? (i := 803) (by decide +kernel)) rfl) ?_
  refine Ev.iload_n (pc := 4) (n := (0, 0)) (i := 1) dX6_setDeadline_4 rfl rfl ?_
  refine Ev.iconst (pc := 5) (n := (0, 0)) dX6_setDeadline_5 ?_
  refine Ev.iconst (pc := 6) (n := (0, 0)) dX6_setDeadline_6 ?_
  exact Ev.callVX (pc := 7) (n := (0, 0)) (ob := 0) (as := [zr (some (4096 + 7)), zi a, zi 0, zi 0]) (st := []) (hz) dX6_setDeadline_7 ok_X6_change (lk_X6_37 rfl) ⟨(Nat.le_of_ble_eq_true rfl), (Nat.le_of_ble_eq_true rfl)⟩ h0 ⟨by decide, rfl⟩ rfl (Nat.le_of_ble_eq_true rfl) (Nat.le_of_ble_eq_true rfl) ⟨(Nat.le_of_ble_eq_true rfl), (Nat.le_of_ble_eq_true rfl)⟩ rfl
