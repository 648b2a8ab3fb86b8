/-! ===== the class: whole commands ===== -/
theorem zNc : ∀ m, m < 8 → ([2, 3, 2, 2, 2, 3, 1, 1] : List Int32).getD m 0 = Int32.ofInt (nOf ((m : Int) + 1)) := by decide
theorem hr_end {t : Int → Int} {L : Nat} (hb : BY t L) (p : Nat) : hr t L p = -1 ↔ ¬ p < L := by
  unfold hr
  split
  · rename_i g
    have := (hb.2 p g).1
    omega
  · rename_i g
    exact ⟨fun _ => g, fun _ => rfl⟩
theorem s_readCmd_end {h : zH} {I : Nat → Int → Int} (hM : zCM h) {t : Int → Int} {L : Nat} (hT : TXC I t L) (hb : BY t L) {p0 : Nat} (hp : I 1 3 = p0) (hpL : p0 ≤ L) (hend : ¬ sk t L p0 < L) : Ev M_X2_readCommand 0 [(0, zr (some 1))] [] (h.1, I, h.2.2) (0, 0) (.inl (some (zr none)), (h.1, (zup I 1 3 ((sk t L p0 : Nat) : Int)), h.2.2)) := by
  have hL := hT.2.1
  have ks := s_skipSpacesC hM hT hp
  have hT1 : TXC (zup I 1 3 ((sk t L p0 : Nat) : Int)) t L := hT.up (by decide) _
  have hq1 : (zup I 1 3 ((sk t L p0 : Nat) : Int)) 1 3 = ((sk t L p0 : Nat) : Int) := zup_s _ _ _ _
  have kp := s_peekC hM hT1 hq1
  have hs := (sk_ge t L p0).2 hpL
  have he := (hr_end hb (sk t L p0)).2 hend
  refine Ev.aload_n (pc := 0) (n := (0, 0)) (i := 0) dX2_readCommand_0 rfl rfl ?_
  refine Ev.callV (pc := 1) (n := (0, 0)) (ob := 1) (as := []) (st := []) (ks) dX2_readCommand_1 ok_X2_skipSpaces (lk_X2_35 rfl) ⟨(Nat.le_of_ble_eq_true rfl), (Nat.le_of_ble_eq_true rfl)⟩ (zk_at hM.1 rfl) ⟨by decide, rfl⟩ rfl (Nat.le_of_ble_eq_true rfl) (Nat.le_of_ble_eq_true rfl) ⟨(Nat.le_of_ble_eq_true rfl), (Nat.le_of_ble_eq_true rfl)⟩ ?_
  refine Ev.pop (pc := 4) (n := (0, 0)) dX2_readCommand_4 rfl ?_
  refine Ev.aload_n (pc := 5) (n := (0, 0)) (i := 0) dX2_readCommand_5 rfl rfl ?_
  refine Ev.callV (pc := 6) (n := (0, 0)) (ob := 1) (as := []) (st := []) (kp) dX2_readCommand_6 ok_X2_peek (lk_X2_39 rfl) ⟨(Nat.le_of_ble_eq_true rfl), (Nat.le_of_ble_eq_true rfl)⟩ (zk_at hM.1 rfl) ⟨by decide, rfl⟩ rfl (Nat.le_of_ble_eq_true rfl) (Nat.le_of_ble_eq_true rfl) ⟨(Nat.le_of_ble_eq_true rfl), (Nat.le_of_ble_eq_true rfl)⟩ ?_
  refine Ev.iconst (pc := 9) (n := (0, 0)) dX2_readCommand_9 ?_
  refine Ev.icmp_ne (pc := 10) (n := (0, 0)) (tgt := 15) dX2_readCommand_10 rfl (fun hc => absurd he hc) (fun hc => ?_)
  refine Ev.null (pc := 13) (n := (0, 0)) dX2_readCommand_13 ?_
  exact Ev.aret dX2_readCommand_14 rfl rfl ⟨(Nat.le_of_ble_eq_true rfl), (Nat.le_of_ble_eq_true rfl)⟩
theorem s_readCmd_no {h : zH} {I : Nat → Int → Int} (hM : zCM h) {t : Int → Int} {L : Nat} (hT : TXC I t L) (hb : BY t L) {p0 : Nat} (hp : I 1 3 = p0) (hpL : p0 ≤ L) (hlt : sk t L p0 < L) (hk9 : cmdK t L (sk t L p0) = 0) : ∃ I2 : Nat → Int → Int, zCk I I2 ∧ I2 1 4 = cmdAt t L (sk t L p0) ∧ Ev M_X2_readCommand 0 [(0, zr (some 1))] [] (h.1, I, h.2.2) (0, 0) (.inl (some (zr none)), (h.1, I2, h.2.2)) := by
  have hL := hT.2.1
  have ks := s_skipSpacesC hM hT hp
  have hT1 : TXC (zup I 1 3 ((sk t L p0 : Nat) : Int)) t L := hT.up (by decide) _
  have hq1 : (zup I 1 3 ((sk t L p0 : Nat) : Int)) 1 3 = ((sk t L p0 : Nat) : Int) := zup_s _ _ _ _
  have kp := s_peekC hM hT1 hq1
  have hs := (sk_ge t L p0).2 hpL
  have he : ¬ hr t L (sk t L p0) = -1 := fun g => (hr_end hb (sk t L p0)).1 g hlt
  by_cases hk0 : kd t L (sk t L p0) = 0
  · skip
    have kw := s_readWord hM hT1 hq1 hs (r := none) (Or.inl ⟨hk0, rfl⟩)
    rw [zup_zup] at kw
    have eA : cmdAt t L (sk t L p0) = sk t L p0 := if_pos hk0
    refine ⟨zup (zup I 1 3 ((lt t L (sk t L p0) : Nat) : Int)) 1 4 ((sk t L p0 : Nat) : Int), (zCk.at' I _).trans (zCk.fl _ _), ?_, ?_⟩
    · rw [eA]; exact zup_s _ _ _ _
    refine Ev.aload_n (pc := 0) (n := (0, 0)) (i := 0) dX2_readCommand_0 rfl rfl ?_
    refine Ev.callV (pc := 1) (n := (0, 0)) (ob := 1) (as := []) (st := []) (ks) dX2_readCommand_1 ok_X2_skipSpaces (lk_X2_35 rfl) ⟨(Nat.le_of_ble_eq_true rfl), (Nat.le_of_ble_eq_true rfl)⟩ (zk_at hM.1 rfl) ⟨by decide, rfl⟩ rfl (Nat.le_of_ble_eq_true rfl) (Nat.le_of_ble_eq_true rfl) ⟨(Nat.le_of_ble_eq_true rfl), (Nat.le_of_ble_eq_true rfl)⟩ ?_
    refine Ev.pop (pc := 4) (n := (0, 0)) dX2_readCommand_4 rfl ?_
    refine Ev.aload_n (pc := 5) (n := (0, 0)) (i := 0) dX2_readCommand_5 rfl rfl ?_
    refine Ev.callV (pc := 6) (n := (0, 0)) (ob := 1) (as := []) (st := []) (kp) dX2_readCommand_6 ok_X2_peek (lk_X2_39 rfl) ⟨(Nat.le_of_ble_eq_true rfl), (Nat.le_of_ble_eq_true rfl)⟩ (zk_at hM.1 rfl) ⟨by decide, rfl⟩ rfl (Nat.le_of_ble_eq_true rfl) (Nat.le_of_ble_eq_true rfl) ⟨(Nat.le_of_ble_eq_true rfl), (Nat.le_of_ble_eq_true rfl)⟩ ?_
    refine Ev.iconst (pc := 9) (n := (0, 0)) dX2_readCommand_9 ?_
    refine Ev.icmp_ne (pc := 10) (n := (0, 0)) (tgt := 15) dX2_readCommand_10 rfl (fun hc => ?_) (fun hc => absurd hc he)
    refine Ev.aload_n (pc := 15) (n := (0, 0)) (i := 0) dX2_readCommand_15 rfl rfl ?_
    refine Ev.gI (pc := 16) (n := (0, 0)) (x := ((sk t L p0 : Nat) : Int)) dX2_readCommand_16 fl_X2_22 (zk_at hM.1 rfl) rfl hq1 ?_
    refine Ev.istore_n (pc := 19) (n := (0, 0)) (i := 1) (L' := [(1, zi ((sk t L p0 : Nat) : Int)), (0, zr (some 1))]) dX2_readCommand_19 rfl (Nat.le_of_ble_eq_true rfl) rfl ?_
    refine Ev.aload_n (pc := 20) (n := (0, 0)) (i := 0) dX2_readCommand_20 rfl rfl ?_
    refine Ev.callV (pc := 21) (n := (0, 0)) (ob := 1) (as := []) (st := []) (kw) dX2_readCommand_21 ok_X2_readWord (lk_X2_43 rfl) ⟨(Nat.le_of_ble_eq_true rfl), (Nat.le_of_ble_eq_true rfl)⟩ (zk_at hM.1 rfl) ⟨by decide, rfl⟩ rfl (Nat.le_of_ble_eq_true rfl) (Nat.le_of_ble_eq_true rfl) ⟨(Nat.le_of_ble_eq_true rfl), (Nat.le_of_ble_eq_true rfl)⟩ ?_
    refine Ev.astore_n (pc := 24) (n := (0, 0)) (i := 2) (L' := [(2, zr none), (1, zi ((sk t L p0 : Nat) : Int)), (0, zr (some 1))]) dX2_readCommand_24 rfl (Nat.le_of_ble_eq_true rfl) rfl ?_
    refine Ev.aload_n (pc := 25) (n := (0, 0)) (i := 2) dX2_readCommand_25 rfl rfl ?_
    refine Ev.ifnonnull (pc := 26) (n := (0, 0)) (tgt := 36) dX2_readCommand_26 rfl (fun x9 hc => nomatch hc) (fun hc => ?_)
    refine Ev.aload_n (pc := 29) (n := (0, 0)) (i := 0) dX2_readCommand_29 rfl rfl ?_
    refine Ev.iload_n (pc := 30) (n := (0, 0)) (i := 1) dX2_readCommand_30 rfl rfl ?_
    refine Ev.putI (pc := 31) (n := (0, 0)) dX2_readCommand_31 fl_X2_25 (zk_at hM.1 rfl) rfl rfl (fun h9 => by cases h9) ?_
    refine Ev.null (pc := 34) (n := (0, 0)) dX2_readCommand_34 ?_
    exact Ev.aret dX2_readCommand_35 rfl rfl ⟨(Nat.le_of_ble_eq_true rfl), (Nat.le_of_ble_eq_true rfl)⟩
  · skip
    have hkr := kindW_rng (wvF t L (sk t L p0) (lt t L (sk t L p0) - (sk t L p0)))
    have hkr2 : 0 ≤ kd t L (sk t L p0) ∧ kd t L (sk t L p0) ≤ 8 := hkr
    obtain ⟨m, hk⟩ : ∃ m : Nat, kd t L (sk t L p0) = (m : Int) + 1 := ⟨(kd t L (sk t L p0) - 1).toNat, by omega⟩
    have hm : m < 8 := by omega
    have kw := s_readWord hM hT1 hq1 hs (r := some (4096 + m)) (Or.inr ⟨m, hm, hk, rfl⟩)
    rw [zup_zup] at kw
    obtain ⟨v, I2, q1, q2, q3, q4, q5, kn⟩ := s_readNumbers hM (hT.up (k := 3) (by decide) ((lt t L (sk t L p0) : Nat) : Int)) (zup_s _ _ _ _) ((lt_ge t L (sk t L p0)).2 hs) (cnt := cN t L (sk t L p0)) (by have := nOf_rng (kd t L (sk t L p0)); unfold cN; omega)
    have hcn9 : ((cN t L (sk t L p0) : Nat) : Int) = nOf ((m : Int) + 1) := by
      have := nOf_rng (kd t L (sk t L p0))
      rw [← hk]
      unfold cN
      omega
    have hnr := nOf_rng ((m : Int) + 1)
    have hT2 : TXC I2 t L := q1.tx (hT.up (by decide) _)
    have ksc := s_readSemicolon hM hT2 q2
    have hce : natP t L (cN t L (sk t L p0)) (lt t L (sk t L p0)) = cE t L (sk t L p0) := rfl
    rw [hce] at q2 q5 ksc
    have eA0 : cmdAt t L (sk t L p0) = if nokF t L (cN t L (sk t L p0)) (lt t L (sk t L p0)) = 0 then cE t L (sk t L p0) else if hr t L (sk t L (cE t L (sk t L p0))) = 59 then sk t L (cE t L (sk t L p0)) + 1 else sk t L (cE t L (sk t L p0)) := if_neg hk0
    have eK0 : cmdK t L (sk t L p0) = if nokF t L (cN t L (sk t L p0)) (lt t L (sk t L p0)) = 0 then 0 else if hr t L (sk t L (cE t L (sk t L p0))) = 59 then kd t L (sk t L p0) else 0 := if_neg hk0
    by_cases hn0 : nokF t L (cN t L (sk t L p0)) (lt t L (sk t L p0)) = 0
    · skip
      rw [if_pos hn0] at eA0
      rcases q5 hn0 with rfl | ⟨rfl, hdg⟩
      · skip
        refine ⟨zup I2 1 4 ((cE t L (sk t L p0) : Nat) : Int), ((zCk.at' I _).trans q1).trans (zCk.fl _ _), ?_, ?_⟩
        · rw [eA0]; exact zup_s _ _ _ _
        refine Ev.aload_n (pc := 0) (n := (0, 0)) (i := 0) dX2_readCommand_0 rfl rfl ?_
        refine Ev.callV (pc := 1) (n := (0, 0)) (ob := 1) (as := []) (st := []) (ks) dX2_readCommand_1 ok_X2_skipSpaces (lk_X2_35 rfl) ⟨(Nat.le_of_ble_eq_true rfl), (Nat.le_of_ble_eq_true rfl)⟩ (zk_at hM.1 rfl) ⟨by decide, rfl⟩ rfl (Nat.le_of_ble_eq_true rfl) (Nat.le_of_ble_eq_true rfl) ⟨(Nat.le_of_ble_eq_true rfl), (Nat.le_of_ble_eq_true rfl)⟩ ?_
        refine Ev.pop (pc := 4) (n := (0, 0)) dX2_readCommand_4 rfl ?_
        refine Ev.aload_n (pc := 5) (n := (0, 0)) (i := 0) dX2_readCommand_5 rfl rfl ?_
        refine Ev.callV (pc := 6) (n := (0, 0)) (ob := 1) (as := []) (st := []) (kp) dX2_readCommand_6 ok_X2_peek (lk_X2_39 rfl) ⟨(Nat.le_of_ble_eq_true rfl), (Nat.le_of_ble_eq_true rfl)⟩ (zk_at hM.1 rfl) ⟨by decide, rfl⟩ rfl (Nat.le_of_ble_eq_true rfl) (Nat.le_of_ble_eq_true rfl) ⟨(Nat.le_of_ble_eq_true rfl), (Nat.le_of_ble_eq_true rfl)⟩ ?_
        refine Ev.iconst (pc := 9) (n := (0, 0)) dX2_readCommand_9 ?_
        refine Ev.icmp_ne (pc := 10) (n := (0, 0)) (tgt := 15) dX2_readCommand_10 rfl (fun hc => ?_) (fun hc => absurd hc he)
        refine Ev.aload_n (pc := 15) (n := (0, 0)) (i := 0) dX2_readCommand_15 rfl rfl ?_
        refine Ev.gI (pc := 16) (n := (0, 0)) (x := ((sk t L p0 : Nat) : Int)) dX2_readCommand_16 fl_X2_22 (zk_at hM.1 rfl) rfl hq1 ?_
        refine Ev.istore_n (pc := 19) (n := (0, 0)) (i := 1) (L' := [(1, zi ((sk t L p0 : Nat) : Int)), (0, zr (some 1))]) dX2_readCommand_19 rfl (Nat.le_of_ble_eq_true rfl) rfl ?_
        refine Ev.aload_n (pc := 20) (n := (0, 0)) (i := 0) dX2_readCommand_20 rfl rfl ?_
        refine Ev.callV (pc := 21) (n := (0, 0)) (ob := 1) (as := []) (st := []) (kw) dX2_readCommand_21 ok_X2_readWord (lk_X2_43 rfl) ⟨(Nat.le_of_ble_eq_true rfl), (Nat.le_of_ble_eq_true rfl)⟩ (zk_at hM.1 rfl) ⟨by decide, rfl⟩ rfl (Nat.le_of_ble_eq_true rfl) (Nat.le_of_ble_eq_true rfl) ⟨(Nat.le_of_ble_eq_true rfl), (Nat.le_of_ble_eq_true rfl)⟩ ?_
        refine Ev.astore_n (pc := 24) (n := (0, 0)) (i := 2) (L' := [(2, zr (some (4096 + m))), (1, zi ((sk t L p0 : Nat) : Int)), (0, zr (some 1))]) dX2_readCommand_24 rfl (Nat.le_of_ble_eq_true rfl) rfl ?_
        refine Ev.aload_n (pc := 25) (n := (0, 0)) (i := 2) dX2_readCommand_25 rfl rfl ?_
        refine Ev.ifnonnull (pc := 26) (n := (0, 0)) (tgt := 36) dX2_readCommand_26 rfl (fun x9 hc => ?_) (fun hc => nomatch hc)
        refine Ev.aload_n (pc := 36) (n := (0, 0)) (i := 0) dX2_readCommand_36 rfl rfl ?_
        refine Ev.aload_n (pc := 37) (n := (0, 0)) (i := 2) dX2_readCommand_37 rfl rfl ?_
        refine Ev.geE (pc := 38) (n := (0, 0)) (i := m) (w := ("SlackRows$Command", "numberCount", "I", [2, 3, 2, 2, 2, 3, 1, 1])) (x := ((cN t L (sk t L p0) : Nat) : Int)) dX2_readCommand_38 hm (List.mem_cons_of_mem _ List.mem_cons_self) (zgw_in (List.mem_of_getElem? (i := 1328) (by decide +kernel)) rfl) ⟨by omega, by omega⟩ (by rw [hcn9]; exact zNc m hm) ?_
        refine Ev.callV (pc := 41) (n := (0, 0)) (ob := 1) (as := [zi ((cN t L (sk t L p0) : Nat) : Int)]) (st := []) (kn) dX2_readCommand_41 ok_X2_readNumbers (lk_X2_51 rfl) ⟨(Nat.le_of_ble_eq_true rfl), (Nat.le_of_ble_eq_true rfl)⟩ (zk_at hM.1 rfl) ⟨by decide, rfl⟩ rfl (Nat.le_of_ble_eq_true rfl) (Nat.le_of_ble_eq_true rfl) ⟨(Nat.le_of_ble_eq_true rfl), (Nat.le_of_ble_eq_true rfl)⟩ ?_
        refine Ev.if_eq (pc := 44) (n := (0, 0)) (tgt := 54) dX2_readCommand_44 rfl (fun hc => ?_) (fun hc => absurd rfl hc)
        refine Ev.aload_n (pc := 54) (n := (0, 0)) (i := 0) dX2_readCommand_54 rfl rfl ?_
        refine Ev.aload_n (pc := 55) (n := (0, 0)) (i := 0) dX2_readCommand_55 rfl rfl ?_
        refine Ev.gI (pc := 56) (n := (0, 0)) (x := ((cE t L (sk t L p0) : Nat) : Int)) dX2_readCommand_56 fl_X2_22 (zk_at hM.1 rfl) rfl q2 ?_
        refine Ev.putI (pc := 59) (n := (0, 0)) dX2_readCommand_59 fl_X2_25 (zk_at hM.1 rfl) rfl rfl (fun h9 => by cases h9) ?_
        refine Ev.null (pc := 62) (n := (0, 0)) dX2_readCommand_62 ?_
        exact Ev.aret dX2_readCommand_63 rfl rfl ⟨(Nat.le_of_ble_eq_true rfl), (Nat.le_of_ble_eq_true rfl)⟩
      · skip
        have hs2 : sk t L (cE t L (sk t L p0)) = cE t L (sk t L p0) := rn_out (by omega)
        rw [hs2, if_neg (show ¬ hr t L (cE t L (sk t L p0)) = 59 by omega), if_neg (show ¬ hr t L (cE t L (sk t L p0)) = 59 by omega), zup_id q2] at ksc
        refine ⟨zup I2 1 4 ((cE t L (sk t L p0) : Nat) : Int), ((zCk.at' I _).trans q1).trans (zCk.fl _ _), ?_, ?_⟩
        · rw [eA0]; exact zup_s _ _ _ _
        refine Ev.aload_n (pc := 0) (n := (0, 0)) (i := 0) dX2_readCommand_0 rfl rfl ?_
        refine Ev.callV (pc := 1) (n := (0, 0)) (ob := 1) (as := []) (st := []) (ks) dX2_readCommand_1 ok_X2_skipSpaces (lk_X2_35 rfl) ⟨(Nat.le_of_ble_eq_true rfl), (Nat.le_of_ble_eq_true rfl)⟩ (zk_at hM.1 rfl) ⟨by decide, rfl⟩ rfl (Nat.le_of_ble_eq_true rfl) (Nat.le_of_ble_eq_true rfl) ⟨(Nat.le_of_ble_eq_true rfl), (Nat.le_of_ble_eq_true rfl)⟩ ?_
        refine Ev.pop (pc := 4) (n := (0, 0)) dX2_readCommand_4 rfl ?_
        refine Ev.aload_n (pc := 5) (n := (0, 0)) (i := 0) dX2_readCommand_5 rfl rfl ?_
        refine Ev.callV (pc := 6) (n := (0, 0)) (ob := 1) (as := []) (st := []) (kp) dX2_readCommand_6 ok_X2_peek (lk_X2_39 rfl) ⟨(Nat.le_of_ble_eq_true rfl), (Nat.le_of_ble_eq_true rfl)⟩ (zk_at hM.1 rfl) ⟨by decide, rfl⟩ rfl (Nat.le_of_ble_eq_true rfl) (Nat.le_of_ble_eq_true rfl) ⟨(Nat.le_of_ble_eq_true rfl), (Nat.le_of_ble_eq_true rfl)⟩ ?_
        refine Ev.iconst (pc := 9) (n := (0, 0)) dX2_readCommand_9 ?_
        refine Ev.icmp_ne (pc := 10) (n := (0, 0)) (tgt := 15) dX2_readCommand_10 rfl (fun hc => ?_) (fun hc => absurd hc he)
        refine Ev.aload_n (pc := 15) (n := (0, 0)) (i := 0) dX2_readCommand_15 rfl rfl ?_
        refine Ev.gI (pc := 16) (n := (0, 0)) (x := ((sk t L p0 : Nat) : Int)) dX2_readCommand_16 fl_X2_22 (zk_at hM.1 rfl) rfl hq1 ?_
        refine Ev.istore_n (pc := 19) (n := (0, 0)) (i := 1) (L' := [(1, zi ((sk t L p0 : Nat) : Int)), (0, zr (some 1))]) dX2_readCommand_19 rfl (Nat.le_of_ble_eq_true rfl) rfl ?_
        refine Ev.aload_n (pc := 20) (n := (0, 0)) (i := 0) dX2_readCommand_20 rfl rfl ?_
        refine Ev.callV (pc := 21) (n := (0, 0)) (ob := 1) (as := []) (st := []) (kw) dX2_readCommand_21 ok_X2_readWord (lk_X2_43 rfl) ⟨(Nat.le_of_ble_eq_true rfl), (Nat.le_of_ble_eq_true rfl)⟩ (zk_at hM.1 rfl) ⟨by decide, rfl⟩ rfl (Nat.le_of_ble_eq_true rfl) (Nat.le_of_ble_eq_true rfl) ⟨(Nat.le_of_ble_eq_true rfl), (Nat.le_of_ble_eq_true rfl)⟩ ?_
        refine Ev.astore_n (pc := 24) (n := (0, 0)) (i := 2) (L' := [(2, zr (some (4096 + m))), (1, zi ((sk t L p0 : Nat) : Int)), (0, zr (some 1))]) dX2_readCommand_24 rfl (Nat.le_of_ble_eq_true rfl) rfl ?_
        refine Ev.aload_n (pc := 25) (n := (0, 0)) (i := 2) dX2_readCommand_25 rfl rfl ?_
        refine Ev.ifnonnull (pc := 26) (n := (0, 0)) (tgt := 36) dX2_readCommand_26 rfl (fun x9 hc => ?_) (fun hc => nomatch hc)
        refine Ev.aload_n (pc := 36) (n := (0, 0)) (i := 0) dX2_readCommand_36 rfl rfl ?_
        refine Ev.aload_n (pc := 37) (n := (0, 0)) (i := 2) dX2_readCommand_37 rfl rfl ?_
        refine Ev.geE (pc := 38) (n := (0, 0)) (i := m) (w := ("SlackRows$Command", "numberCount", "I", [2, 3, 2, 2, 2, 3, 1, 1])) (x := ((cN t L (sk t L p0) : Nat) : Int)) dX2_readCommand_38 hm (List.mem_cons_of_mem _ List.mem_cons_self) (zgw_in (List.mem_of_getElem? (i := 1328) (by decide +kernel)) rfl) ⟨by omega, by omega⟩ (by rw [hcn9]; exact zNc m hm) ?_
        refine Ev.callV (pc := 41) (n := (0, 0)) (ob := 1) (as := [zi ((cN t L (sk t L p0) : Nat) : Int)]) (st := []) (kn) dX2_readCommand_41 ok_X2_readNumbers (lk_X2_51 rfl) ⟨(Nat.le_of_ble_eq_true rfl), (Nat.le_of_ble_eq_true rfl)⟩ (zk_at hM.1 rfl) ⟨by decide, rfl⟩ rfl (Nat.le_of_ble_eq_true rfl) (Nat.le_of_ble_eq_true rfl) ⟨(Nat.le_of_ble_eq_true rfl), (Nat.le_of_ble_eq_true rfl)⟩ ?_
        refine Ev.if_eq (pc := 44) (n := (0, 0)) (tgt := 54) dX2_readCommand_44 rfl (fun hc => absurd hc (by decide)) (fun hc => ?_)
        refine Ev.aload_n (pc := 47) (n := (0, 0)) (i := 0) dX2_readCommand_47 rfl rfl ?_
        refine Ev.callV (pc := 48) (n := (0, 0)) (ob := 1) (as := []) (st := []) (ksc) dX2_readCommand_48 ok_X2_readSemicolon (lk_X2_55 rfl) ⟨(Nat.le_of_ble_eq_true rfl), (Nat.le_of_ble_eq_true rfl)⟩ (zk_at hM.1 rfl) ⟨by decide, rfl⟩ rfl (Nat.le_of_ble_eq_true rfl) (Nat.le_of_ble_eq_true rfl) ⟨(Nat.le_of_ble_eq_true rfl), (Nat.le_of_ble_eq_true rfl)⟩ ?_
        refine Ev.if_ne (pc := 51) (n := (0, 0)) (tgt := 64) dX2_readCommand_51 rfl (fun hc => absurd rfl hc) (fun hc => ?_)
        refine Ev.aload_n (pc := 54) (n := (0, 0)) (i := 0) dX2_readCommand_54 rfl rfl ?_
        refine Ev.aload_n (pc := 55) (n := (0, 0)) (i := 0) dX2_readCommand_55 rfl rfl ?_
        refine Ev.gI (pc := 56) (n := (0, 0)) (x := ((cE t L (sk t L p0) : Nat) : Int)) dX2_readCommand_56 fl_X2_22 (zk_at hM.1 rfl) rfl q2 ?_
        refine Ev.putI (pc := 59) (n := (0, 0)) dX2_readCommand_59 fl_X2_25 (zk_at hM.1 rfl) rfl rfl (fun h9 => by cases h9) ?_
        refine Ev.null (pc := 62) (n := (0, 0)) dX2_readCommand_62 ?_
        exact Ev.aret dX2_readCommand_63 rfl rfl ⟨(Nat.le_of_ble_eq_true rfl), (Nat.le_of_ble_eq_true rfl)⟩
    · skip
      rw [if_neg hn0] at eA0 eK0
      have h59 : ¬ hr t L (sk t L (cE t L (sk t L p0))) = 59 := fun g => by
        rw [if_pos g] at eK0
        omega
      rw [if_neg h59] at eA0
      rw [if_neg h59, if_neg h59] at ksc
      have hv1 := (q4 hn0).1
      subst hv1
      have hq3 : (zup I2 1 3 ((sk t L (cE t L (sk t L p0)) : Nat) : Int)) 1 3 = ((sk t L (cE t L (sk t L p0)) : Nat) : Int) := zup_s _ _ _ _
      refine ⟨zup (zup I2 1 3 ((sk t L (cE t L (sk t L p0)) : Nat) : Int)) 1 4 ((sk t L (cE t L (sk t L p0)) : Nat) : Int), (((zCk.at' I _).trans q1).trans (zCk.at' _ _)).trans (zCk.fl _ _), ?_, ?_⟩
      · rw [eA0]; exact zup_s _ _ _ _
      refine Ev.aload_n (pc := 0) (n := (0, 0)) (i := 0) dX2_readCommand_0 rfl rfl ?_
      refine Ev.callV (pc := 1) (n := (0, 0)) (ob := 1) (as := []) (st := []) (ks) dX2_readCommand_1 ok_X2_skipSpaces (lk_X2_35 rfl) ⟨(Nat.le_of_ble_eq_true rfl), (Nat.le_of_ble_eq_true rfl)⟩ (zk_at hM.1 rfl) ⟨by decide, rfl⟩ rfl (Nat.le_of_ble_eq_true rfl) (Nat.le_of_ble_eq_true rfl) ⟨(Nat.le_of_ble_eq_true rfl), (Nat.le_of_ble_eq_true rfl)⟩ ?_
      refine Ev.pop (pc := 4) (n := (0, 0)) dX2_readCommand_4 rfl ?_
      refine Ev.aload_n (pc := 5) (n := (0, 0)) (i := 0) dX2_readCommand_5 rfl rfl ?_
      refine Ev.callV (pc := 6) (n := (0, 0)) (ob := 1) (as := []) (st := []) (kp) dX2_readCommand_6 ok_X2_peek (lk_X2_39 rfl) ⟨(Nat.le_of_ble_eq_true rfl), (Nat.le_of_ble_eq_true rfl)⟩ (zk_at hM.1 rfl) ⟨by decide, rfl⟩ rfl (Nat.le_of_ble_eq_true rfl) (Nat.le_of_ble_eq_true rfl) ⟨(Nat.le_of_ble_eq_true rfl), (Nat.le_of_ble_eq_true rfl)⟩ ?_
      refine Ev.iconst (pc := 9) (n := (0, 0)) dX2_readCommand_9 ?_
      refine Ev.icmp_ne (pc := 10) (n := (0, 0)) (tgt := 15) dX2_readCommand_10 rfl (fun hc => ?_) (fun hc => absurd hc he)
      refine Ev.aload_n (pc := 15) (n := (0, 0)) (i := 0) dX2_readCommand_15 rfl rfl ?_
      refine Ev.gI (pc := 16) (n := (0, 0)) (x := ((sk t L p0 : Nat) : Int)) dX2_readCommand_16 fl_X2_22 (zk_at hM.1 rfl) rfl hq1 ?_
      refine Ev.istore_n (pc := 19) (n := (0, 0)) (i := 1) (L' := [(1, zi ((sk t L p0 : Nat) : Int)), (0, zr (some 1))]) dX2_readCommand_19 rfl (Nat.le_of_ble_eq_true rfl) rfl ?_
      refine Ev.aload_n (pc := 20) (n := (0, 0)) (i := 0) dX2_readCommand_20 rfl rfl ?_
      refine Ev.callV (pc := 21) (n := (0, 0)) (ob := 1) (as := []) (st := []) (kw) dX2_readCommand_21 ok_X2_readWord (lk_X2_43 rfl) ⟨(Nat.le_of_ble_eq_true rfl), (Nat.le_of_ble_eq_true rfl)⟩ (zk_at hM.1 rfl) ⟨by decide, rfl⟩ rfl (Nat.le_of_ble_eq_true rfl) (Nat.le_of_ble_eq_true rfl) ⟨(Nat.le_of_ble_eq_true rfl), (Nat.le_of_ble_eq_true rfl)⟩ ?_
      refine Ev.astore_n (pc := 24) (n := (0, 0)) (i := 2) (L' := [(2, zr (some (4096 + m))), (1, zi ((sk t L p0 : Nat) : Int)), (0, zr (some 1))]) dX2_readCommand_24 rfl (Nat.le_of_ble_eq_true rfl) rfl ?_
      refine Ev.aload_n (pc := 25) (n := (0, 0)) (i := 2) dX2_readCommand_25 rfl rfl ?_
      refine Ev.ifnonnull (pc := 26) (n := (0, 0)) (tgt := 36) dX2_readCommand_26 rfl (fun x9 hc => ?_) (fun hc => nomatch hc)
      refine Ev.aload_n (pc := 36) (n := (0, 0)) (i := 0) dX2_readCommand_36 rfl rfl ?_
      refine Ev.aload_n (pc := 37) (n := (0, 0)) (i := 2) dX2_readCommand_37 rfl rfl ?_
      refine Ev.geE (pc := 38) (n := (0, 0)) (i := m) (w := ("SlackRows$Command", "numberCount", "I", [2, 3, 2, 2, 2, 3, 1, 1])) (x := ((cN t L (sk t L p0) : Nat) : Int)) dX2_readCommand_38 hm (List.mem_cons_of_mem _ List.mem_cons_self) (zgw_in (List.mem_of_getElem? (i := 1328) (by decide +kernel)) rfl) ⟨by omega, by omega⟩ (by rw [hcn9]; exact zNc m hm) ?_
      refine Ev.callV (pc := 41) (n := (0, 0)) (ob := 1) (as := [zi ((cN t L (sk t L p0) : Nat) : Int)]) (st := []) (kn) dX2_readCommand_41 ok_X2_readNumbers (lk_X2_51 rfl) ⟨(Nat.le_of_ble_eq_true rfl), (Nat.le_of_ble_eq_true rfl)⟩ (zk_at hM.1 rfl) ⟨by decide, rfl⟩ rfl (Nat.le_of_ble_eq_true rfl) (Nat.le_of_ble_eq_true rfl) ⟨(Nat.le_of_ble_eq_true rfl), (Nat.le_of_ble_eq_true rfl)⟩ ?_
      refine Ev.if_eq (pc := 44) (n := (0, 0)) (tgt := 54) dX2_readCommand_44 rfl (fun hc => absurd hc (by decide)) (fun hc => ?_)
      refine Ev.aload_n (pc := 47) (n := (0, 0)) (i := 0) dX2_readCommand_47 rfl rfl ?_
      refine Ev.callV (pc := 48) (n := (0, 0)) (ob := 1) (as := []) (st := []) (ksc) dX2_readCommand_48 ok_X2_readSemicolon (lk_X2_55 rfl) ⟨(Nat.le_of_ble_eq_true rfl), (Nat.le_of_ble_eq_true rfl)⟩ (zk_at hM.1 rfl) ⟨by decide, rfl⟩ rfl (Nat.le_of_ble_eq_true rfl) (Nat.le_of_ble_eq_true rfl) ⟨(Nat.le_of_ble_eq_true rfl), (Nat.le_of_ble_eq_true rfl)⟩ ?_
      refine Ev.if_ne (pc := 51) (n := (0, 0)) (tgt := 64) dX2_readCommand_51 rfl (fun hc => absurd rfl hc) (fun hc => ?_)
      refine Ev.aload_n (pc := 54) (n := (0, 0)) (i := 0) dX2_readCommand_54 rfl rfl ?_
      refine Ev.aload_n (pc := 55) (n := (0, 0)) (i := 0) dX2_readCommand_55 rfl rfl ?_
      refine Ev.gI (pc := 56) (n := (0, 0)) (x := ((sk t L (cE t L (sk t L p0)) : Nat) : Int)) dX2_readCommand_56 fl_X2_22 (zk_at hM.1 rfl) rfl hq3 ?_
      refine Ev.putI (pc := 59) (n := (0, 0)) dX2_readCommand_59 fl_X2_25 (zk_at hM.1 rfl) rfl rfl (fun h9 => by cases h9) ?_
      refine Ev.null (pc := 62) (n := (0, 0)) dX2_readCommand_62 ?_
      exact Ev.aret dX2_readCommand_63 rfl rfl ⟨(Nat.le_of_ble_eq_true rfl), (Nat.le_of_ble_eq_true rfl)⟩
theorem s_readCmd {h : zH} {I : Nat → Int → Int} (hM : zCM h) {t : Int → Int} {L : Nat} (hT : TXC I t L) (hb : BY t L) {p0 : Nat} (hp : I 1 3 = p0) (hpL : p0 ≤ L) (hlt : sk t L p0 < L) {m : Nat} (hm : m < 8) (hk9 : cmdK t L (sk t L p0) = (m : Int) + 1) : ∃ I2 : Nat → Int → Int, zCk I I2 ∧ I2 1 3 = cmdAt t L (sk t L p0) ∧ I2 1 4 = I 1 4 ∧ (∀ j : Nat, j < 3 → I2 3 j = if (j : Int) < nOf ((m : Int) + 1) then nvF t L j (lt t L (sk t L p0)) else 0) ∧ Ev M_X2_readCommand 0 [(0, zr (some 1))] [] (h.1, I, h.2.2) (0, 0) (.inl (some (zr (some (4096 + m)))), (h.1, I2, h.2.2)) := by
  have hL := hT.2.1
  have ks := s_skipSpacesC hM hT hp
  have hT1 : TXC (zup I 1 3 ((sk t L p0 : Nat) : Int)) t L := hT.up (by decide) _
  have hq1 : (zup I 1 3 ((sk t L p0 : Nat) : Int)) 1 3 = ((sk t L p0 : Nat) : Int) := zup_s _ _ _ _
  have kp := s_peekC hM hT1 hq1
  have hs := (sk_ge t L p0).2 hpL
  have he : ¬ hr t L (sk t L p0) = -1 := fun g => (hr_end hb (sk t L p0)).1 g hlt
  have hk0 : ¬ kd t L (sk t L p0) = 0 := fun g => by
    have : cmdK t L (sk t L p0) = 0 := if_pos g
    omega
  have eA0 : cmdAt t L (sk t L p0) = if nokF t L (cN t L (sk t L p0)) (lt t L (sk t L p0)) = 0 then cE t L (sk t L p0) else if hr t L (sk t L (cE t L (sk t L p0))) = 59 then sk t L (cE t L (sk t L p0)) + 1 else sk t L (cE t L (sk t L p0)) := if_neg hk0
  have eK0 : cmdK t L (sk t L p0) = if nokF t L (cN t L (sk t L p0)) (lt t L (sk t L p0)) = 0 then 0 else if hr t L (sk t L (cE t L (sk t L p0))) = 59 then kd t L (sk t L p0) else 0 := if_neg hk0
  have hn0 : ¬ nokF t L (cN t L (sk t L p0)) (lt t L (sk t L p0)) = 0 := fun g => by
    rw [if_pos g] at eK0
    omega
  rw [if_neg hn0] at eA0 eK0
  have h59 : hr t L (sk t L (cE t L (sk t L p0))) = 59 := Classical.byContradiction fun g => by
    rw [if_neg g] at eK0
    omega
  rw [if_pos h59] at eA0 eK0
  have hk : kd t L (sk t L p0) = (m : Int) + 1 := eK0.symm.trans hk9
  have kw := s_readWord hM hT1 hq1 hs (r := some (4096 + m)) (Or.inr ⟨m, hm, hk, rfl⟩)
  rw [zup_zup] at kw
  obtain ⟨v, I2, q1, q2, q3, q4, q5, kn⟩ := s_readNumbers hM (hT.up (k := 3) (by decide) ((lt t L (sk t L p0) : Nat) : Int)) (zup_s _ _ _ _) ((lt_ge t L (sk t L p0)).2 hs) (cnt := cN t L (sk t L p0)) (by have := nOf_rng (kd t L (sk t L p0)); unfold cN; omega)
  have hcn9 : ((cN t L (sk t L p0) : Nat) : Int) = nOf ((m : Int) + 1) := by
    have := nOf_rng (kd t L (sk t L p0))
    rw [← hk]
    unfold cN
    omega
  have hnr := nOf_rng ((m : Int) + 1)
  have hT2 : TXC I2 t L := q1.tx (hT.up (by decide) _)
  have ksc := s_readSemicolon hM hT2 q2
  have hce : natP t L (cN t L (sk t L p0)) (lt t L (sk t L p0)) = cE t L (sk t L p0) := rfl
  rw [hce] at q2 q5 ksc
  rw [if_pos h59, if_pos h59] at ksc
  have hv1 := (q4 hn0).1
  subst hv1
  refine ⟨zup I2 1 3 ((sk t L (cE t L (sk t L p0)) + 1 : Nat) : Int), ((zCk.at' I _).trans q1).trans (zCk.at' _ _), ?_, ?_, fun j hj => ?_, ?_⟩
  · rw [eA0]; exact zup_s _ _ _ _
  · exact (zup_k _ _ _ _ (by decide)).trans (q3.trans (zup_k _ _ _ _ (by decide)))
  · rw [zup_o _ _ _ _ (by decide), (q4 hn0).2 j hj]
    by_cases c : j < cN t L (sk t L p0)
    · rw [if_pos c, if_pos (by omega)]
    · rw [if_neg c, if_neg (by omega)]
  refine Ev.aload_n (pc := 0) (n := (0, 0)) (i := 0) dX2_readCommand_0 rfl rfl ?_
  refine Ev.callV (pc := 1) (n := (0, 0)) (ob := 1) (as := []) (st := []) (ks) dX2_readCommand_1 ok_X2_skipSpaces (lk_X2_35 rfl) ⟨(Nat.le_of_ble_eq_true rfl), (Nat.le_of_ble_eq_true rfl)⟩ (zk_at hM.1 rfl) ⟨by decide, rfl⟩ rfl (Nat.le_of_ble_eq_true rfl) (Nat.le_of_ble_eq_true rfl) ⟨(Nat.le_of_ble_eq_true rfl), (Nat.le_of_ble_eq_true rfl)⟩ ?_
  refine Ev.pop (pc := 4) (n := (0, 0)) dX2_readCommand_4 rfl ?_
  refine Ev.aload_n (pc := 5) (n := (0, 0)) (i := 0) dX2_readCommand_5 rfl rfl ?_
  refine Ev.callV (pc := 6) (n := (0, 0)) (ob := 1) (as := []) (st := []) (kp) dX2_readCommand_6 ok_X2_peek (lk_X2_39 rfl) ⟨(Nat.le_of_ble_eq_true rfl), (Nat.le_of_ble_eq_true rfl)⟩ (zk_at hM.1 rfl) ⟨by decide, rfl⟩ rfl (Nat.le_of_ble_eq_true rfl) (Nat.le_of_ble_eq_true rfl) ⟨(Nat.le_of_ble_eq_true rfl), (Nat.le_of_ble_eq_true rfl)⟩ ?_
  refine Ev.iconst (pc := 9) (n := (0, 0)) dX2_readCommand_9 ?_
  refine Ev.icmp_ne (pc := 10) (n := (0, 0)) (tgt := 15) dX2_readCommand_10 rfl (fun hc => ?_) (fun hc => absurd hc he)
  refine Ev.aload_n (pc := 15) (n := (0, 0)) (i := 0) dX2_readCommand_15 rfl rfl ?_
  refine Ev.gI (pc := 16) (n := (0, 0)) (x := ((sk t L p0 : Nat) : Int)) dX2_readCommand_16 fl_X2_22 (zk_at hM.1 rfl) rfl hq1 ?_
  refine Ev.istore_n (pc := 19) (n := (0, 0)) (i := 1) (L' := [(1, zi ((sk t L p0 : Nat) : Int)), (0, zr (some 1))]) dX2_readCommand_19 rfl (Nat.le_of_ble_eq_true rfl) rfl ?_
  refine Ev.aload_n (pc := 20) (n := (0, 0)) (i := 0) dX2_readCommand_20 rfl rfl ?_
  refine Ev.callV (pc := 21) (n := (0, 0)) (ob := 1) (as := []) (st := []) (kw) dX2_readCommand_21 ok_X2_readWord (lk_X2_43 rfl) ⟨(Nat.le_of_ble_eq_true rfl), (Nat.le_of_ble_eq_true rfl)⟩ (zk_at hM.1 rfl) ⟨by decide, rfl⟩ rfl (Nat.le_of_ble_eq_true rfl) (Nat.le_of_ble_eq_true rfl) ⟨(Nat.le_of_ble_eq_true rfl), (Nat.le_of_ble_eq_true rfl)⟩ ?_
  refine Ev.astore_n (pc := 24) (n := (0, 0)) (i := 2) (L' := [(2, zr (some (4096 + m))), (1, zi ((sk t L p0 : Nat) : Int)), (0, zr (some 1))]) dX2_readCommand_24 rfl (Nat.le_of_ble_eq_true rfl) rfl ?_
  refine Ev.aload_n (pc := 25) (n := (0, 0)) (i := 2) dX2_readCommand_25 rfl rfl ?_
  refine Ev.ifnonnull (pc := 26) (n := (0, 0)) (tgt := 36) dX2_readCommand_26 rfl (fun x9 hc => ?_) (fun hc => nomatch hc)
  refine Ev.aload_n (pc := 36) (n := (0, 0)) (i := 0) dX2_readCommand_36 rfl rfl ?_
  refine Ev.aload_n (pc := 37) (n := (0, 0)) (i := 2) dX2_readCommand_37 rfl rfl ?_
  refine Ev.geE (pc := 38) (n := (0, 0)) (i := m) (w := ("SlackRows$Command", "numberCount", "I", [2, 3, 2, 2, 2, 3, 1, 1])) (x := ((cN t L (sk t L p0) : Nat) : Int)) dX2_readCommand_38 hm (List.mem_cons_of_mem _ List.mem_cons_self) (zgw_in (List.mem_of_getElem? (i := 1328) (by decide +kernel)) rfl) ⟨by omega, by omega⟩ (by rw [hcn9]; exact zNc m hm) ?_
  refine Ev.callV (pc := 41) (n := (0, 0)) (ob := 1) (as := [zi ((cN t L (sk t L p0) : Nat) : Int)]) (st := []) (kn) dX2_readCommand_41 ok_X2_readNumbers (lk_X2_51 rfl) ⟨(Nat.le_of_ble_eq_true rfl), (Nat.le_of_ble_eq_true rfl)⟩ (zk_at hM.1 rfl) ⟨by decide, rfl⟩ rfl (Nat.le_of_ble_eq_true rfl) (Nat.le_of_ble_eq_true rfl) ⟨(Nat.le_of_ble_eq_true rfl), (Nat.le_of_ble_eq_true rfl)⟩ ?_
  refine Ev.if_eq (pc := 44) (n := (0, 0)) (tgt := 54) dX2_readCommand_44 rfl (fun hc => absurd hc (by decide)) (fun hc => ?_)
  refine Ev.aload_n (pc := 47) (n := (0, 0)) (i := 0) dX2_readCommand_47 rfl rfl ?_
  refine Ev.callV (pc := 48) (n := (0, 0)) (ob := 1) (as := []) (st := []) (ksc) dX2_readCommand_48 ok_X2_readSemicolon (lk_X2_55 rfl) ⟨(Nat.le_of_ble_eq_true rfl), (Nat.le_of_ble_eq_true rfl)⟩ (zk_at hM.1 rfl) ⟨by decide, rfl⟩ rfl (Nat.le_of_ble_eq_true rfl) (Nat.le_of_ble_eq_true rfl) ⟨(Nat.le_of_ble_eq_true rfl), (Nat.le_of_ble_eq_true rfl)⟩ ?_
  refine Ev.if_ne (pc := 51) (n := (0, 0)) (tgt := 64) dX2_readCommand_51 rfl (fun hc => ?_) (fun hc => absurd hc (by decide))
  refine Ev.aload_n (pc := 64) (n := (0, 0)) (i := 2) dX2_readCommand_64 rfl rfl ?_
  exact Ev.aret dX2_readCommand_65 rfl rfl ⟨(Nat.le_of_ble_eq_true rfl), (Nat.le_of_ble_eq_true rfl)⟩
theorem s_flt_nil {h : zH} {I : Nat → Int → Int} (hM : zCM h) {v : Int} (hv : I 1 4 = v) (i : Int) : Ev M_X2_findFault 11 [(0, zr (some 1)), (1, zr none), (2, zi i)] [] (h.1, I, h.2.2) (0, 0) (.inl (some (zi v)), (h.1, I, h.2.2)) := by
  refine Ev.iload_n (pc := 11) (n := (0, 0)) (i := 2) dX2_findFault_11 rfl rfl ?_
  refine Ev.sipush (pc := 12) (n := (0, 0)) dX2_findFault_12 ?_
  refine Ev.icmp_ge (pc := 15) (n := (0, 0)) (tgt := 33) dX2_findFault_15 rfl (fun hc => ?_) (fun hc => ?_)
  · skip
    refine Ev.aload_n (pc := 33) (n := (0, 0)) (i := 0) dX2_findFault_33 rfl rfl ?_
    refine Ev.gI (pc := 34) (n := (0, 0)) (x := v) dX2_findFault_34 fl_X2_25 (zk_at hM.1 rfl) rfl hv ?_
    exact Ev.iret dX2_findFault_37 rfl ⟨(Nat.le_of_ble_eq_true rfl), (Nat.le_of_ble_eq_true rfl)⟩
  · skip
    refine Ev.aload_n (pc := 18) (n := (0, 0)) (i := 1) dX2_findFault_18 rfl rfl ?_
    refine Ev.ifnull (pc := 19) (n := (0, 0)) (tgt := 33) dX2_findFault_19 rfl (fun hc => ?_) (fun x9 hc => nomatch hc)
    refine Ev.aload_n (pc := 33) (n := (0, 0)) (i := 0) dX2_findFault_33 rfl rfl ?_
    refine Ev.gI (pc := 34) (n := (0, 0)) (x := v) dX2_findFault_34 fl_X2_25 (zk_at hM.1 rfl) rfl hv ?_
    exact Ev.iret dX2_findFault_37 rfl ⟨(Nat.le_of_ble_eq_true rfl), (Nat.le_of_ble_eq_true rfl)⟩
theorem s_flt_loopC {h : zH} (hM : zCM h) {t : Int → Int} {L : Nat} (hb : BY t L) : ∀ (f p0 i m : Nat) (I : Nat → Int → Int), TXC I t L → I 1 3 = p0 → I 1 4 = -1 → p0 ≤ L → L - sk t L p0 < f → i ≤ 150 → L - p0 ≤ 150 - i → ∃ I2 : Nat → Int → Int, zCk I I2 ∧ Ev M_X2_findFault 11 [(0, zr (some 1)), (1, zr (some (4096 + m))), (2, zi (i : Int))] [] (h.1, I, h.2.2) (0, 0) (.inl (some (zi (fltF t L f (sk t L p0)))), (h.1, I2, h.2.2)) := by
  intro f
  induction f with
  | zero => intro p0 i m I hT hp hf hpL hlf; omega
  | succ f ih =>
    intro p0 i m I hT hp hf hpL hlf hi hrem
    have hL := hT.2.1
    have e1 : fltF t L (f + 1) (sk t L p0) = if sk t L p0 < L then (if cmdK t L (sk t L p0) = 0 then ((cmdAt t L (sk t L p0) : Nat) : Int) else fltF t L f (sk t L (cmdAt t L (sk t L p0)))) else -1 := rfl
    have g1 := sk_ge t L p0
    by_cases hlt : sk t L p0 < L
    rotate_left
    · rw [if_neg hlt] at e1
      rw [e1]
      by_cases hi2 : i = 150
      · refine ⟨I, zCk.rfl' I, ?_⟩
        refine Ev.iload_n (pc := 11) (n := (0, 0)) (i := 2) dX2_findFault_11 rfl rfl ?_
        refine Ev.sipush (pc := 12) (n := (0, 0)) dX2_findFault_12 ?_
        refine Ev.icmp_ge (pc := 15) (n := (0, 0)) (tgt := 33) dX2_findFault_15 rfl (fun hc => ?_) (fun hc => absurd hc (by omega))
        refine Ev.aload_n (pc := 33) (n := (0, 0)) (i := 0) dX2_findFault_33 rfl rfl ?_
        refine Ev.gI (pc := 34) (n := (0, 0)) (x := (-1)) dX2_findFault_34 fl_X2_25 (zk_at hM.1 rfl) rfl hf ?_
        exact Ev.iret dX2_findFault_37 rfl ⟨(Nat.le_of_ble_eq_true rfl), (Nat.le_of_ble_eq_true rfl)⟩
      · refine ⟨(zup I 1 3 ((sk t L p0 : Nat) : Int)), zCk.at' I _, ?_⟩
        have kr := s_readCmd_end hM hT hb hp hpL hlt
        refine Ev.iload_n (pc := 11) (n := (0, 0)) (i := 2) dX2_findFault_11 rfl rfl ?_
        refine Ev.sipush (pc := 12) (n := (0, 0)) dX2_findFault_12 ?_
        refine Ev.icmp_ge (pc := 15) (n := (0, 0)) (tgt := 33) dX2_findFault_15 rfl (fun hc => absurd hc (by omega)) (fun hc => ?_)
        refine Ev.aload_n (pc := 18) (n := (0, 0)) (i := 1) dX2_findFault_18 rfl rfl ?_
        refine Ev.ifnull (pc := 19) (n := (0, 0)) (tgt := 33) dX2_findFault_19 rfl (fun hc => nomatch hc) (fun x9 hc => ?_)
        refine Ev.aload_n (pc := 22) (n := (0, 0)) (i := 0) dX2_findFault_22 rfl rfl ?_
        refine Ev.callV (pc := 23) (n := (0, 0)) (ob := 1) (as := []) (st := []) (kr) dX2_findFault_23 ok_X2_readCommand (lk_X2_31 rfl) ⟨(Nat.le_of_ble_eq_true rfl), (Nat.le_of_ble_eq_true rfl)⟩ (zk_at hM.1 rfl) ⟨by decide, rfl⟩ rfl (Nat.le_of_ble_eq_true rfl) (Nat.le_of_ble_eq_true rfl) ⟨(Nat.le_of_ble_eq_true rfl), (Nat.le_of_ble_eq_true rfl)⟩ ?_
        refine Ev.astore_n (pc := 26) (n := (0, 0)) (i := 1) (L' := [(1, zr none), (0, zr (some 1)), (2, zi (i : Int))]) dX2_findFault_26 rfl (Nat.le_of_ble_eq_true rfl) rfl ?_
        refine Ev.iinc (pc := 27) (n := (0, 0)) (L' := [(2, zi ((i : Int) + 1)), (1, zr none), (0, zr (some 1))]) dX2_findFault_27 rfl (Nat.le_of_ble_eq_true rfl) ⟨by omega, by omega⟩ rfl ?_
        refine Ev.goto (pc := 30) (n := (0, 0)) (tgt := 11) dX2_findFault_30 rfl ?_
        refine Ev.perm [2, 1, 0] rfl ?_
        exact s_flt_nil hM ((zup_k _ _ _ _ (by decide)).trans hf) _
    · rw [if_pos hlt] at e1
      by_cases hk9 : cmdK t L (sk t L p0) = 0
      · rw [if_pos hk9] at e1
        rw [e1]
        obtain ⟨I2, q1, q2, kr⟩ := s_readCmd_no hM hT hb hp hpL hlt hk9
        refine ⟨I2, q1, ?_⟩
        refine Ev.iload_n (pc := 11) (n := (0, 0)) (i := 2) dX2_findFault_11 rfl rfl ?_
        refine Ev.sipush (pc := 12) (n := (0, 0)) dX2_findFault_12 ?_
        refine Ev.icmp_ge (pc := 15) (n := (0, 0)) (tgt := 33) dX2_findFault_15 rfl (fun hc => absurd hc (by omega)) (fun hc => ?_)
        refine Ev.aload_n (pc := 18) (n := (0, 0)) (i := 1) dX2_findFault_18 rfl rfl ?_
        refine Ev.ifnull (pc := 19) (n := (0, 0)) (tgt := 33) dX2_findFault_19 rfl (fun hc => nomatch hc) (fun x9 hc => ?_)
        refine Ev.aload_n (pc := 22) (n := (0, 0)) (i := 0) dX2_findFault_22 rfl rfl ?_
        refine Ev.callV (pc := 23) (n := (0, 0)) (ob := 1) (as := []) (st := []) (kr) dX2_findFault_23 ok_X2_readCommand (lk_X2_31 rfl) ⟨(Nat.le_of_ble_eq_true rfl), (Nat.le_of_ble_eq_true rfl)⟩ (zk_at hM.1 rfl) ⟨by decide, rfl⟩ rfl (Nat.le_of_ble_eq_true rfl) (Nat.le_of_ble_eq_true rfl) ⟨(Nat.le_of_ble_eq_true rfl), (Nat.le_of_ble_eq_true rfl)⟩ ?_
        refine Ev.astore_n (pc := 26) (n := (0, 0)) (i := 1) (L' := [(1, zr none), (0, zr (some 1)), (2, zi (i : Int))]) dX2_findFault_26 rfl (Nat.le_of_ble_eq_true rfl) rfl ?_
        refine Ev.iinc (pc := 27) (n := (0, 0)) (L' := [(2, zi ((i : Int) + 1)), (1, zr none), (0, zr (some 1))]) dX2_findFault_27 rfl (Nat.le_of_ble_eq_true rfl) ⟨by omega, by omega⟩ rfl ?_
        refine Ev.goto (pc := 30) (n := (0, 0)) (tgt := 11) dX2_findFault_30 rfl ?_
        refine Ev.perm [2, 1, 0] rfl ?_
        exact s_flt_nil hM q2 _
      · rw [if_neg hk9] at e1
        rw [e1]
        have hkr := cmdK_rng t L (sk t L p0)
        obtain ⟨m2, hm2⟩ : ∃ m2 : Nat, cmdK t L (sk t L p0) = (m2 : Int) + 1 := ⟨(cmdK t L (sk t L p0) - 1).toNat, by omega⟩
        obtain ⟨I2, q1, q2, q3, -, kr⟩ := s_readCmd hM hT hb hp hpL hlt (by omega) hm2
        have g3 := cmdAt_ge t L (sk t L p0)
        have g4 := g3.2.2 hk9
        have g5 := g3.2.1 (by omega)
        have g6 := sk_ge t L (cmdAt t L (sk t L p0))
        obtain ⟨I3, q4, k9⟩ := ih (cmdAt t L (sk t L p0)) (i + 1) m2 I2 (q1.tx hT) q2 (q3.trans hf) g5 (by omega) (by omega) (by omega)
        refine ⟨I3, q1.trans q4, ?_⟩
        refine Ev.iload_n (pc := 11) (n := (0, 0)) (i := 2) dX2_findFault_11 rfl rfl ?_
        refine Ev.sipush (pc := 12) (n := (0, 0)) dX2_findFault_12 ?_
        refine Ev.icmp_ge (pc := 15) (n := (0, 0)) (tgt := 33) dX2_findFault_15 rfl (fun hc => absurd hc (by omega)) (fun hc => ?_)
        refine Ev.aload_n (pc := 18) (n := (0, 0)) (i := 1) dX2_findFault_18 rfl rfl ?_
        refine Ev.ifnull (pc := 19) (n := (0, 0)) (tgt := 33) dX2_findFault_19 rfl (fun hc => nomatch hc) (fun x9 hc => ?_)
        refine Ev.aload_n (pc := 22) (n := (0, 0)) (i := 0) dX2_findFault_22 rfl rfl ?_
        refine Ev.callV (pc := 23) (n := (0, 0)) (ob := 1) (as := []) (st := []) (kr) dX2_findFault_23 ok_X2_readCommand (lk_X2_31 rfl) ⟨(Nat.le_of_ble_eq_true rfl), (Nat.le_of_ble_eq_true rfl)⟩ (zk_at hM.1 rfl) ⟨by decide, rfl⟩ rfl (Nat.le_of_ble_eq_true rfl) (Nat.le_of_ble_eq_true rfl) ⟨(Nat.le_of_ble_eq_true rfl), (Nat.le_of_ble_eq_true rfl)⟩ ?_
        refine Ev.astore_n (pc := 26) (n := (0, 0)) (i := 1) (L' := [(1, zr (some (4096 + m2))), (0, zr (some 1)), (2, zi (i : Int))]) dX2_findFault_26 rfl (Nat.le_of_ble_eq_true rfl) rfl ?_
        refine Ev.iinc (pc := 27) (n := (0, 0)) (L' := [(2, zi ((i : Int) + 1)), (1, zr (some (4096 + m2))), (0, zr (some 1))]) dX2_findFault_27 rfl (Nat.le_of_ble_eq_true rfl) ⟨by omega, by omega⟩ rfl ?_
        refine Ev.goto (pc := 30) (n := (0, 0)) (tgt := 11) dX2_findFault_30 rfl ?_
        refine Ev.perm [2, 1, 0] rfl ?_
        exact k9
theorem s_findFaultC {h : zH} {I : Nat → Int → Int} (hM : zCM h) {t : Int → Int} {L : Nat} (hT : TXC I t L) (hb : BY t L) : ∃ I2 : Nat → Int → Int, zCk I I2 ∧ Ev M_X2_findFault 0 [(0, zr (some 1))] [] (h.1, I, h.2.2) (0, 0) (.inl (some (zi (fltF t L (L + 1) (sk t L 0)))), (h.1, I2, h.2.2)) := by
  have hL := hT.2.1
  have hT0 : TXC (zup (zup I 1 3 0) 1 4 (-1)) t L := (hT.up (by decide) _).up (by decide) _
  have hp0 : (zup (zup I 1 3 0) 1 4 (-1)) 1 3 = ((0 : Nat) : Int) := (zup_k _ _ _ _ (by decide)).trans (zup_s _ _ _ _)
  have hf0 : (zup (zup I 1 3 0) 1 4 (-1)) 1 4 = -1 := zup_s _ _ _ _
  have w0 : zCk I (zup (zup I 1 3 0) 1 4 (-1)) := (zCk.at' I _).trans (zCk.fl _ _)
  have e1 : fltF t L (L + 1) (sk t L 0) = if sk t L 0 < L then (if cmdK t L (sk t L 0) = 0 then ((cmdAt t L (sk t L 0) : Nat) : Int) else fltF t L L (sk t L (cmdAt t L (sk t L 0)))) else -1 := rfl
  by_cases hlt : sk t L 0 < L
  rotate_left
  · skip
    rw [if_neg hlt] at e1
    rw [e1]
    have kr := s_readCmd_end hM hT0 hb hp0 (Nat.zero_le _) hlt
    refine ⟨zup (zup (zup I 1 3 0) 1 4 (-1)) 1 3 ((sk t L 0 : Nat) : Int), w0.trans (zCk.at' _ _), ?_⟩
    refine Ev.aload_n (pc := 0) (n := (0, 0)) (i := 0) dX2_findFault_0 rfl rfl ?_
    refine Ev.callV (pc := 1) (n := (0, 0)) (ob := 1) (as := []) (st := []) (s_rewindC hM) dX2_findFault_1 ok_X2_rewind (lk_X2_28 rfl) ⟨(Nat.le_of_ble_eq_true rfl), (Nat.le_of_ble_eq_true rfl)⟩ (zk_at hM.1 rfl) ⟨by decide, rfl⟩ rfl (Nat.le_of_ble_eq_true rfl) (Nat.le_of_ble_eq_true rfl) ⟨(Nat.le_of_ble_eq_true rfl), (Nat.le_of_ble_eq_true rfl)⟩ ?_
    refine Ev.aload_n (pc := 4) (n := (0, 0)) (i := 0) dX2_findFault_4 rfl rfl ?_
    refine Ev.callV (pc := 5) (n := (0, 0)) (ob := 1) (as := []) (st := []) (kr) dX2_findFault_5 ok_X2_readCommand (lk_X2_31 rfl) ⟨(Nat.le_of_ble_eq_true rfl), (Nat.le_of_ble_eq_true rfl)⟩ (zk_at hM.1 rfl) ⟨by decide, rfl⟩ rfl (Nat.le_of_ble_eq_true rfl) (Nat.le_of_ble_eq_true rfl) ⟨(Nat.le_of_ble_eq_true rfl), (Nat.le_of_ble_eq_true rfl)⟩ ?_
    refine Ev.astore_n (pc := 8) (n := (0, 0)) (i := 1) (L' := [(1, zr none), (0, zr (some 1))]) dX2_findFault_8 rfl (Nat.le_of_ble_eq_true rfl) rfl ?_
    refine Ev.iconst (pc := 9) (n := (0, 0)) dX2_findFault_9 ?_
    refine Ev.istore_n (pc := 10) (n := (0, 0)) (i := 2) (L' := [(2, zi 0), (1, zr none), (0, zr (some 1))]) dX2_findFault_10 rfl (Nat.le_of_ble_eq_true rfl) rfl ?_
    refine Ev.perm [2, 1, 0] rfl ?_
    exact s_flt_nil hM ((zup_k _ _ _ _ (by decide)).trans hf0) _
  · skip
    rw [if_pos hlt] at e1
    by_cases hk9 : cmdK t L (sk t L 0) = 0
    · skip
      rw [if_pos hk9] at e1
      rw [e1]
      obtain ⟨I2, q1, q2, kr⟩ := s_readCmd_no hM hT0 hb hp0 (Nat.zero_le _) hlt hk9
      refine ⟨I2, w0.trans q1, ?_⟩
      refine Ev.aload_n (pc := 0) (n := (0, 0)) (i := 0) dX2_findFault_0 rfl rfl ?_
      refine Ev.callV (pc := 1) (n := (0, 0)) (ob := 1) (as := []) (st := []) (s_rewindC hM) dX2_findFault_1 ok_X2_rewind (lk_X2_28 rfl) ⟨(Nat.le_of_ble_eq_true rfl), (Nat.le_of_ble_eq_true rfl)⟩ (zk_at hM.1 rfl) ⟨by decide, rfl⟩ rfl (Nat.le_of_ble_eq_true rfl) (Nat.le_of_ble_eq_true rfl) ⟨(Nat.le_of_ble_eq_true rfl), (Nat.le_of_ble_eq_true rfl)⟩ ?_
      refine Ev.aload_n (pc := 4) (n := (0, 0)) (i := 0) dX2_findFault_4 rfl rfl ?_
      refine Ev.callV (pc := 5) (n := (0, 0)) (ob := 1) (as := []) (st := []) (kr) dX2_findFault_5 ok_X2_readCommand (lk_X2_31 rfl) ⟨(Nat.le_of_ble_eq_true rfl), (Nat.le_of_ble_eq_true rfl)⟩ (zk_at hM.1 rfl) ⟨by decide, rfl⟩ rfl (Nat.le_of_ble_eq_true rfl) (Nat.le_of_ble_eq_true rfl) ⟨(Nat.le_of_ble_eq_true rfl), (Nat.le_of_ble_eq_true rfl)⟩ ?_
      refine Ev.astore_n (pc := 8) (n := (0, 0)) (i := 1) (L' := [(1, zr none), (0, zr (some 1))]) dX2_findFault_8 rfl (Nat.le_of_ble_eq_true rfl) rfl ?_
      refine Ev.iconst (pc := 9) (n := (0, 0)) dX2_findFault_9 ?_
      refine Ev.istore_n (pc := 10) (n := (0, 0)) (i := 2) (L' := [(2, zi 0), (1, zr none), (0, zr (some 1))]) dX2_findFault_10 rfl (Nat.le_of_ble_eq_true rfl) rfl ?_
      refine Ev.perm [2, 1, 0] rfl ?_
      exact s_flt_nil hM q2 _
    · skip
      rw [if_neg hk9] at e1
      rw [e1]
      have hkr := cmdK_rng t L (sk t L 0)
      obtain ⟨m2, hm2⟩ : ∃ m2 : Nat, cmdK t L (sk t L 0) = (m2 : Int) + 1 := ⟨(cmdK t L (sk t L 0) - 1).toNat, by omega⟩
      obtain ⟨I2, q1, q2, q3, -, kr⟩ := s_readCmd hM hT0 hb hp0 (Nat.zero_le _) hlt (by omega) hm2
      have g3 := cmdAt_ge t L (sk t L 0)
      have g4 := g3.2.2 hk9
      have g5 := g3.2.1 (by omega)
      have g6 := sk_ge t L (cmdAt t L (sk t L 0))
      obtain ⟨I3, q4, k9⟩ := s_flt_loopC hM hb L (cmdAt t L (sk t L 0)) 0 m2 I2 (q1.tx hT0) q2 (q3.trans hf0) g5 (by omega) (by omega) (by omega)
      refine ⟨I3, (w0.trans q1).trans q4, ?_⟩
      refine Ev.aload_n (pc := 0) (n := (0, 0)) (i := 0) dX2_findFault_0 rfl rfl ?_
      refine Ev.callV (pc := 1) (n := (0, 0)) (ob := 1) (as := []) (st := []) (s_rewindC hM) dX2_findFault_1 ok_X2_rewind (lk_X2_28 rfl) ⟨(Nat.le_of_ble_eq_true rfl), (Nat.le_of_ble_eq_true rfl)⟩ (zk_at hM.1 rfl) ⟨by decide, rfl⟩ rfl (Nat.le_of_ble_eq_true rfl) (Nat.le_of_ble_eq_true rfl) ⟨(Nat.le_of_ble_eq_true rfl), (Nat.le_of_ble_eq_true rfl)⟩ ?_
      refine Ev.aload_n (pc := 4) (n := (0, 0)) (i := 0) dX2_findFault_4 rfl rfl ?_
      refine Ev.callV (pc := 5) (n := (0, 0)) (ob := 1) (as := []) (st := []) (kr) dX2_findFault_5 ok_X2_readCommand (lk_X2_31 rfl) ⟨(Nat.le_of_ble_eq_true rfl), (Nat.le_of_ble_eq_true rfl)⟩ (zk_at hM.1 rfl) ⟨by decide, rfl⟩ rfl (Nat.le_of_ble_eq_true rfl) (Nat.le_of_ble_eq_true rfl) ⟨(Nat.le_of_ble_eq_true rfl), (Nat.le_of_ble_eq_true rfl)⟩ ?_
      refine Ev.astore_n (pc := 8) (n := (0, 0)) (i := 1) (L' := [(1, zr (some (4096 + m2))), (0, zr (some 1))]) dX2_findFault_8 rfl (Nat.le_of_ble_eq_true rfl) rfl ?_
      refine Ev.iconst (pc := 9) (n := (0, 0)) dX2_findFault_9 ?_
      refine Ev.istore_n (pc := 10) (n := (0, 0)) (i := 2) (L' := [(2, zi 0), (1, zr (some (4096 + m2))), (0, zr (some 1))]) dX2_findFault_10 rfl (Nat.le_of_ble_eq_true rfl) rfl ?_
      refine Ev.perm [2, 1, 0] rfl ?_
      exact k9
