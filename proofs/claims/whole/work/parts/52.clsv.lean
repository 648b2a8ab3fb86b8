/-! ===== the class: running a text; whole values, the digest ===== -/
theorem s_runF_loop {σ : Nat → Nat} {cnt : Nat} {t : Int → Int} {L : Nat} {S : Nat → Nat × zF × Int × Int} (hb : BY t L) : ∀ (f p0 i n : Nat) (F : zF) (ad dl : Int) (h : zH) (q0 d n2 : Nat) (F2 : zF) (ad2 dl2 : Int), CS h σ cnt t L S → TS h (oTr (σ 4)) n F ad dl → Gd q0 n F ad dl → q0 + L - p0 ≤ 80000 → h.2.1 1 3 = p0 → p0 ≤ L → L - sk t L p0 < f → i ≤ 150 → L - p0 ≤ 150 - i → RunsF t L f (sk t L p0) n F ad dl d n2 F2 ad2 dl2 → ∃ (I3 : Nat → Int → Int) (R3 : Nat → Int → Option Nat), CS (h.1, I3, R3) σ cnt t L S ∧ TS (h.1, I3, R3) (oTr (σ 4)) n2 F2 ad2 dl2 ∧ (∀ o, 260 ≤ o → I3 o = h.2.1 o ∧ R3 o = h.2.2 o) ∧ Ev M_X6_runFaultless 9 [(0, zr (some 0)), (1, zi (i : Int))] [] h (0, 0) (.inl (some (zi ((i : Int) + (d : Int)))), (h.1, I3, R3)) := by
  intro f
  induction f with
  | zero => intro p0 i n F ad dl h q0 d n2 F2 ad2 dl2 hS hT hG hq hp hpL hlf; omega
  | succ f ih =>
    intro p0 i n F ad dl h q0 d n2 F2 ad2 dl2 hS hT hG hq hp hpL hlf hi hrem hR
    have hM := hS.1
    have hTr := hS.2.2.2.1.2
    have hcn := hS.2.2.2.2.1.1
    have hc4 := hS.2.2.2.2.1.2
    have hK : ∀ j, j < 5 → h.1[oTr (σ j)]? = some (2, 0) := fun j hj => zk_at hM.1 (KK_T _ (hS.2.2.1.1 j hj))
    have hs5 : ∀ j, j < 5 → oTr (σ j) + 51 ≤ 260 := fun j hj => by have := hS.2.2.1.1 j hj; unfold oTr; omega
    have hx := hS.2.1
    have hL := hx.2.1
    have g1 := sk_ge t L p0
    have hq80 : q0 ≤ 80000 := by omega
    have hB : 24 * (60 + 99 * (q0 : Int)) ≤ 1000000000 := by omega
    have h5 : ∀ o, 260 ≤ o → o ≠ 1 ∧ o ≠ 3 := fun o ho => by omega
    by_cases hi2 : i = 150
    · rcases hR with ⟨-, rfl, rfl, rfl, rfl, rfl⟩ | ⟨hlt, -⟩
      rotate_left
      · omega
      rw [show (i : Int) + ((0 : Nat) : Int) = 150 by omega]
      refine ⟨h.2.1, h.2.2, hS, hT, fun o _ => ⟨rfl, rfl⟩, ?_⟩
      refine Ev.iload_n (pc := 9) (n := (0, 0)) (i := 1) dX6_runFaultless_9 rfl rfl ?_
      refine Ev.sipush (pc := 10) (n := (0, 0)) dX6_runFaultless_10 ?_
      refine Ev.icmp_ge (pc := 13) (n := (0, 0)) (tgt := 103) dX6_runFaultless_13 rfl (fun hc => ?_) (fun hc => absurd hc (by omega))
      refine Ev.sipush (pc := 103) (n := (0, 0)) dX6_runFaultless_103 ?_
      exact Ev.iret dX6_runFaultless_106 rfl ⟨(Nat.le_of_ble_eq_true rfl), (Nat.le_of_ble_eq_true rfl)⟩
    rcases hR with ⟨hlt, rfl, rfl, rfl, rfl, rfl⟩ | ⟨hlt, w, hw, hR⟩
    · have kr := s_readCmd_end hM hx hb hp hpL hlt
      rw [show (i : Int) + ((0 : Nat) : Int) = i by omega]
      refine ⟨(zup h.2.1 1 3 ((sk t L p0 : Nat) : Int)), h.2.2, hS.text (zCk.at' _ _), hT.text (by unfold oTr; omega) (zCk.at' _ _), fun o ho => ⟨(zCk.at' _ _).1 o (h5 o ho).1 (h5 o ho).2, rfl⟩, ?_⟩
      refine Ev.iload_n (pc := 9) (n := (0, 0)) (i := 1) dX6_runFaultless_9 rfl rfl ?_
      refine Ev.sipush (pc := 10) (n := (0, 0)) dX6_runFaultless_10 ?_
      refine Ev.icmp_ge (pc := 13) (n := (0, 0)) (tgt := 103) dX6_runFaultless_13 rfl (fun hc => absurd hc (by omega)) (fun hc => ?_)
      refine Ev.aload_n (pc := 16) (n := (0, 0)) (i := 0) dX6_runFaultless_16 rfl rfl ?_
      refine Ev.gR (pc := 17) (n := (0, 0)) (r := (some 1)) dX6_runFaultless_17 fl_X6_10 (zk_at hM.1 rfl) rfl hM.2.2.2.1 ?_
      refine Ev.callV (pc := 20) (n := (0, 0)) (ob := 1) (as := []) (st := []) (kr) dX6_runFaultless_20 ok_X2_readCommand (lk_X6_232 rfl) ⟨(Nat.le_of_ble_eq_true rfl), (Nat.le_of_ble_eq_true rfl)⟩ (zk_at hM.1 rfl) ⟨by decide, rfl⟩ rfl (Nat.le_of_ble_eq_true rfl) (Nat.le_of_ble_eq_true rfl) ⟨(Nat.le_of_ble_eq_true rfl), (Nat.le_of_ble_eq_true rfl)⟩ ?_
      refine Ev.astore_n (pc := 23) (n := (0, 0)) (i := 2) (L' := [(2, zr none), (0, zr (some 0)), (1, zi (i : Int))]) dX6_runFaultless_23 rfl (Nat.le_of_ble_eq_true rfl) rfl ?_
      refine Ev.aload_n (pc := 24) (n := (0, 0)) (i := 2) dX6_runFaultless_24 rfl rfl ?_
      refine Ev.ifnonnull (pc := 25) (n := (0, 0)) (tgt := 30) dX6_runFaultless_25 rfl (fun x9 hc => nomatch hc) (fun hc => ?_)
      refine Ev.iload_n (pc := 28) (n := (0, 0)) (i := 1) dX6_runFaultless_28 rfl rfl ?_
      exact Ev.iret dX6_runFaultless_29 rfl ⟨(Nat.le_of_ble_eq_true rfl), (Nat.le_of_ble_eq_true rfl)⟩
    · have hkr := cmdK_rng t L (sk t L p0)
      have hk9 : cmdK t L (sk t L p0) ≠ 0 := fun e => by
        rw [e] at hw
        rcases hw with ⟨e, -⟩ | ⟨e, -⟩ | ⟨e, -⟩ | ⟨e, -⟩ | ⟨e, -⟩ | ⟨e, -⟩ | ⟨e, -⟩ | ⟨e, -⟩ <;> exact absurd e (by decide)
      obtain ⟨m, hm2⟩ : ∃ m : Nat, cmdK t L (sk t L p0) = (m : Int) + 1 := ⟨(cmdK t L (sk t L p0) - 1).toNat, by omega⟩
      have hm : m < 8 := by omega
      obtain ⟨I2, q1, q2, q3, q4, kr⟩ := s_readCmd hM hx hb hp hpL hlt hm hm2
      have g3 := cmdAt_ge t L (sk t L p0)
      have g4 := g3.2.2 hk9
      have g5 := g3.2.1 (by omega)
      have g6 := sk_ge t L (cmdAt t L (sk t L p0))
      have hno := nOf_rng ((m : Int) + 1)
      have a0 : nvF t L 0 (lt t L (sk t L p0)) = I2 3 0 := ((q4 0 (by decide)).trans (if_pos (by omega))).symm
      have a1 : 1 < nOf ((m : Int) + 1) → nvF t L 1 (lt t L (sk t L p0)) = I2 3 1 := fun e => ((q4 1 (by decide)).trans (if_pos e)).symm
      have a2 : 2 < nOf ((m : Int) + 1) → nvF t L 2 (lt t L (sk t L p0)) = I2 3 2 := fun e => ((q4 2 (by decide)).trans (if_pos e)).symm
      rw [hm2] at hw hR
      have hw9 := IsWhy.args a0 a1 a2 hw
      have hS2 := hS.text q1
      have hT2 := hT.text (by unfold oTr; omega) q1
      have hT2' := hT2
      obtain ⟨ar, q, len, st, sl, dp, hC, hl, ht, hP⟩ := hT2'
      have hG' := hG
      obtain ⟨⟨dep, hwf⟩, -, -, -⟩ := hG'
      have hrf := s_refusal hC hwf hB hl ht hP hm hw9
      have hwr := hw9.rng ⟨len, st, sl, dp, hl, ht⟩
      rcases hR with ⟨hw0, rfl, rfl, rfl, rfl, rfl⟩ | ⟨rfl, n1, F1, ad1, dl1, ans, hch, d1, rfl, hR⟩
      · rw [show (i : Int) + ((0 : Nat) : Int) = i by omega]
        refine ⟨I2, h.2.2, hS2, hT2, fun o ho => ⟨q1.1 o (h5 o ho).1 (h5 o ho).2, rfl⟩, ?_⟩
        refine Ev.iload_n (pc := 9) (n := (0, 0)) (i := 1) dX6_runFaultless_9 rfl rfl ?_
        refine Ev.sipush (pc := 10) (n := (0, 0)) dX6_runFaultless_10 ?_
        refine Ev.icmp_ge (pc := 13) (n := (0, 0)) (tgt := 103) dX6_runFaultless_13 rfl (fun hc => absurd hc (by omega)) (fun hc => ?_)
        refine Ev.aload_n (pc := 16) (n := (0, 0)) (i := 0) dX6_runFaultless_16 rfl rfl ?_
        refine Ev.gR (pc := 17) (n := (0, 0)) (r := (some 1)) dX6_runFaultless_17 fl_X6_10 (zk_at hM.1 rfl) rfl hM.2.2.2.1 ?_
        refine Ev.callV (pc := 20) (n := (0, 0)) (ob := 1) (as := []) (st := []) (kr) dX6_runFaultless_20 ok_X2_readCommand (lk_X6_232 rfl) ⟨(Nat.le_of_ble_eq_true rfl), (Nat.le_of_ble_eq_true rfl)⟩ (zk_at hM.1 rfl) ⟨by decide, rfl⟩ rfl (Nat.le_of_ble_eq_true rfl) (Nat.le_of_ble_eq_true rfl) ⟨(Nat.le_of_ble_eq_true rfl), (Nat.le_of_ble_eq_true rfl)⟩ ?_
        refine Ev.astore_n (pc := 23) (n := (0, 0)) (i := 2) (L' := [(2, zr (some (4096 + m))), (0, zr (some 0)), (1, zi (i : Int))]) dX6_runFaultless_23 rfl (Nat.le_of_ble_eq_true rfl) rfl ?_
        refine Ev.aload_n (pc := 24) (n := (0, 0)) (i := 2) dX6_runFaultless_24 rfl rfl ?_
        refine Ev.ifnonnull (pc := 25) (n := (0, 0)) (tgt := 30) dX6_runFaultless_25 rfl (fun x9 hc => ?_) (fun hc => nomatch hc)
        refine Ev.aload_n (pc := 30) (n := (0, 0)) (i := 0) dX6_runFaultless_30 rfl rfl ?_
        refine Ev.gR (pc := 31) (n := (0, 0)) (r := (some 1)) dX6_runFaultless_31 fl_X6_10 (zk_at hM.1 rfl) rfl hM.2.2.2.1 ?_
        refine Ev.gR (pc := 34) (n := (0, 0)) (r := (some 3)) dX6_runFaultless_34 fl_X6_236 (zk_at hM.1 rfl) rfl hM.2.2.1 ?_
        refine Ev.iconst (pc := 37) (n := (0, 0)) dX6_runFaultless_37 ?_
        refine Ev.ia (pc := 38) (n := (0, 0)) (x := ((h.1, I2, h.2.2)).2.1 3 0) dX6_runFaultless_38 (zk_at hM.1 rfl) (by omega) (by omega) rfl ?_
        refine Ev.istore_n (pc := 39) (n := (0, 0)) (i := 3) (L' := [(3, zi (((h.1, I2, h.2.2)).2.1 3 0)), (2, zr (some (4096 + m))), (0, zr (some 0)), (1, zi (i : Int))]) dX6_runFaultless_39 rfl (Nat.le_of_ble_eq_true rfl) rfl ?_
        refine Ev.aload_n (pc := 40) (n := (0, 0)) (i := 0) dX6_runFaultless_40 rfl rfl ?_
        refine Ev.gR (pc := 41) (n := (0, 0)) (r := (some 1)) dX6_runFaultless_41 fl_X6_10 (zk_at hM.1 rfl) rfl hM.2.2.2.1 ?_
        refine Ev.gR (pc := 44) (n := (0, 0)) (r := (some 3)) dX6_runFaultless_44 fl_X6_236 (zk_at hM.1 rfl) rfl hM.2.2.1 ?_
        refine Ev.iconst (pc := 47) (n := (0, 0)) dX6_runFaultless_47 ?_
        refine Ev.ia (pc := 48) (n := (0, 0)) (x := ((h.1, I2, h.2.2)).2.1 3 1) dX6_runFaultless_48 (zk_at hM.1 rfl) (by omega) (by omega) rfl ?_
        refine Ev.istore (pc := 49) (n := (0, 0)) (i := 4) (L' := [(4, zi (((h.1, I2, h.2.2)).2.1 3 1)), (3, zi (((h.1, I2, h.2.2)).2.1 3 0)), (2, zr (some (4096 + m))), (0, zr (some 0)), (1, zi (i : Int))]) dX6_runFaultless_49 (Nat.le_of_ble_eq_true rfl) rfl ?_
        refine Ev.aload_n (pc := 51) (n := (0, 0)) (i := 0) dX6_runFaultless_51 rfl rfl ?_
        refine Ev.gR (pc := 52) (n := (0, 0)) (r := (some 1)) dX6_runFaultless_52 fl_X6_10 (zk_at hM.1 rfl) rfl hM.2.2.2.1 ?_
        refine Ev.gR (pc := 55) (n := (0, 0)) (r := (some 3)) dX6_runFaultless_55 fl_X6_236 (zk_at hM.1 rfl) rfl hM.2.2.1 ?_
        refine Ev.iconst (pc := 58) (n := (0, 0)) dX6_runFaultless_58 ?_
        refine Ev.ia (pc := 59) (n := (0, 0)) (x := ((h.1, I2, h.2.2)).2.1 3 2) dX6_runFaultless_59 (zk_at hM.1 rfl) (by omega) (by omega) rfl ?_
        refine Ev.istore (pc := 60) (n := (0, 0)) (i := 5) (L' := [(5, zi (((h.1, I2, h.2.2)).2.1 3 2)), (4, zi (((h.1, I2, h.2.2)).2.1 3 1)), (3, zi (((h.1, I2, h.2.2)).2.1 3 0)), (2, zr (some (4096 + m))), (0, zr (some 0)), (1, zi (i : Int))]) dX6_runFaultless_60 (Nat.le_of_ble_eq_true rfl) rfl ?_
        refine Ev.aload_n (pc := 62) (n := (0, 0)) (i := 0) dX6_runFaultless_62 rfl rfl ?_
        refine Ev.gR (pc := 63) (n := (0, 0)) (r := (some (oTr (σ 4)))) dX6_runFaultless_63 fl_X6_27 (zk_at hM.1 rfl) rfl hTr ?_
        refine Ev.aload_n (pc := 66) (n := (0, 0)) (i := 2) dX6_runFaultless_66 rfl rfl ?_
        refine Ev.iload_n (pc := 67) (n := (0, 0)) (i := 3) dX6_runFaultless_67 rfl rfl ?_
        refine Ev.iload (pc := 68) (n := (0, 0)) dX6_runFaultless_68 rfl ?_
        refine Ev.iload (pc := 70) (n := (0, 0)) dX6_runFaultless_70 rfl ?_
        refine Ev.callV (pc := 72) (n := (0, 0)) (ob := (oTr (σ 4))) (as := [zr (some (4096 + m)), zi (((h.1, I2, h.2.2)).2.1 3 0), zi (((h.1, I2, h.2.2)).2.1 3 1), zi (((h.1, I2, h.2.2)).2.1 3 2)]) (st := []) (hrf) dX6_runFaultless_72 ok_X5_refusal (lk_X6_208 rfl) ⟨(Nat.le_of_ble_eq_true rfl), (Nat.le_of_ble_eq_true rfl)⟩ (hK 4 (by decide)) ⟨by decide, rfl⟩ rfl (Nat.le_of_ble_eq_true rfl) (Nat.le_of_ble_eq_true rfl) ⟨(Nat.le_of_ble_eq_true rfl), (Nat.le_of_ble_eq_true rfl)⟩ ?_
        refine Ev.gsR (pc := 75) (n := (0, 0)) (i := 0) dX6_runFaultless_75 (by decide) (zgw_in (List.mem_of_getElem? (i := 461) (by decide +kernel)) rfl) ?_
        refine Ev.acmp_eq (pc := 78) (n := (0, 0)) (tgt := 83) dX6_runFaultless_78 rfl (Or.inr (Or.inr ⟨w.toNat, 0, by omega, by decide, rfl, rfl⟩)) (fun hc => absurd (Option.some.inj hc) (by omega)) (fun hc => ?_)
        refine Ev.iload_n (pc := 81) (n := (0, 0)) (i := 1) dX6_runFaultless_81 rfl rfl ?_
        exact Ev.iret dX6_runFaultless_82 rfl ⟨(Nat.le_of_ble_eq_true rfl), (Nat.le_of_ble_eq_true rfl)⟩
      · have hch9 := IsChg.args a0 a1 a2 hch
        obtain ⟨I3, R3, ⟨hT3, hfr⟩, kc⟩ := s_carryOut hC hl ht hP hG hq80 hm hw9 hch9
        have hS3 := CS.tree (h := (h.1, I2, h.2.2)) hS2 hfr
        have hat : I3 1 3 = (cmdAt t L (sk t L p0) : Nat) := (congrFun (hfr 1 (Or.inl (by unfold oTr; omega))).1 3).trans q2
        obtain ⟨I4, R4, k1, k2, k3, k9⟩ := ih (cmdAt t L (sk t L p0)) (i + 1) n1 F1 ad1 dl1 (h.1, I3, R3) (q0 + 1) d1 n2 F2 ad2 dl2 hS3 hT3 (hG.step hw9 hch9) (by omega) hat g5 (by omega) (by omega) (by omega) hR
        have e9 : ((i + 1 : Nat) : Int) + (d1 : Int) = (i : Int) + ((d1 + 1 : Nat) : Int) := by omega
        rw [e9] at k9
        refine ⟨I4, R4, k1, k2, fun o ho => ?_, ?_⟩
        · have b1 := k3 o ho
          have b2 := hfr o (Or.inr (by have := hs5 4 (by decide); omega))
          exact ⟨b1.1.trans (b2.1.trans (q1.1 o (h5 o ho).1 (h5 o ho).2)), b1.2.trans b2.2⟩
        refine Ev.iload_n (pc := 9) (n := (0, 0)) (i := 1) dX6_runFaultless_9 rfl rfl ?_
        refine Ev.sipush (pc := 10) (n := (0, 0)) dX6_runFaultless_10 ?_
        refine Ev.icmp_ge (pc := 13) (n := (0, 0)) (tgt := 103) dX6_runFaultless_13 rfl (fun hc => absurd hc (by omega)) (fun hc => ?_)
        refine Ev.aload_n (pc := 16) (n := (0, 0)) (i := 0) dX6_runFaultless_16 rfl rfl ?_
        refine Ev.gR (pc := 17) (n := (0, 0)) (r := (some 1)) dX6_runFaultless_17 fl_X6_10 (zk_at hM.1 rfl) rfl hM.2.2.2.1 ?_
        refine Ev.callV (pc := 20) (n := (0, 0)) (ob := 1) (as := []) (st := []) (kr) dX6_runFaultless_20 ok_X2_readCommand (lk_X6_232 rfl) ⟨(Nat.le_of_ble_eq_true rfl), (Nat.le_of_ble_eq_true rfl)⟩ (zk_at hM.1 rfl) ⟨by decide, rfl⟩ rfl (Nat.le_of_ble_eq_true rfl) (Nat.le_of_ble_eq_true rfl) ⟨(Nat.le_of_ble_eq_true rfl), (Nat.le_of_ble_eq_true rfl)⟩ ?_
        refine Ev.astore_n (pc := 23) (n := (0, 0)) (i := 2) (L' := [(2, zr (some (4096 + m))), (0, zr (some 0)), (1, zi (i : Int))]) dX6_runFaultless_23 rfl (Nat.le_of_ble_eq_true rfl) rfl ?_
        refine Ev.aload_n (pc := 24) (n := (0, 0)) (i := 2) dX6_runFaultless_24 rfl rfl ?_
        refine Ev.ifnonnull (pc := 25) (n := (0, 0)) (tgt := 30) dX6_runFaultless_25 rfl (fun x9 hc => ?_) (fun hc => nomatch hc)
        refine Ev.aload_n (pc := 30) (n := (0, 0)) (i := 0) dX6_runFaultless_30 rfl rfl ?_
        refine Ev.gR (pc := 31) (n := (0, 0)) (r := (some 1)) dX6_runFaultless_31 fl_X6_10 (zk_at hM.1 rfl) rfl hM.2.2.2.1 ?_
        refine Ev.gR (pc := 34) (n := (0, 0)) (r := (some 3)) dX6_runFaultless_34 fl_X6_236 (zk_at hM.1 rfl) rfl hM.2.2.1 ?_
        refine Ev.iconst (pc := 37) (n := (0, 0)) dX6_runFaultless_37 ?_
        refine Ev.ia (pc := 38) (n := (0, 0)) (x := ((h.1, I2, h.2.2)).2.1 3 0) dX6_runFaultless_38 (zk_at hM.1 rfl) (by omega) (by omega) rfl ?_
        refine Ev.istore_n (pc := 39) (n := (0, 0)) (i := 3) (L' := [(3, zi (((h.1, I2, h.2.2)).2.1 3 0)), (2, zr (some (4096 + m))), (0, zr (some 0)), (1, zi (i : Int))]) dX6_runFaultless_39 rfl (Nat.le_of_ble_eq_true rfl) rfl ?_
        refine Ev.aload_n (pc := 40) (n := (0, 0)) (i := 0) dX6_runFaultless_40 rfl rfl ?_
        refine Ev.gR (pc := 41) (n := (0, 0)) (r := (some 1)) dX6_runFaultless_41 fl_X6_10 (zk_at hM.1 rfl) rfl hM.2.2.2.1 ?_
        refine Ev.gR (pc := 44) (n := (0, 0)) (r := (some 3)) dX6_runFaultless_44 fl_X6_236 (zk_at hM.1 rfl) rfl hM.2.2.1 ?_
        refine Ev.iconst (pc := 47) (n := (0, 0)) dX6_runFaultless_47 ?_
        refine Ev.ia (pc := 48) (n := (0, 0)) (x := ((h.1, I2, h.2.2)).2.1 3 1) dX6_runFaultless_48 (zk_at hM.1 rfl) (by omega) (by omega) rfl ?_
        refine Ev.istore (pc := 49) (n := (0, 0)) (i := 4) (L' := [(4, zi (((h.1, I2, h.2.2)).2.1 3 1)), (3, zi (((h.1, I2, h.2.2)).2.1 3 0)), (2, zr (some (4096 + m))), (0, zr (some 0)), (1, zi (i : Int))]) dX6_runFaultless_49 (Nat.le_of_ble_eq_true rfl) rfl ?_
        refine Ev.aload_n (pc := 51) (n := (0, 0)) (i := 0) dX6_runFaultless_51 rfl rfl ?_
        refine Ev.gR (pc := 52) (n := (0, 0)) (r := (some 1)) dX6_runFaultless_52 fl_X6_10 (zk_at hM.1 rfl) rfl hM.2.2.2.1 ?_
        refine Ev.gR (pc := 55) (n := (0, 0)) (r := (some 3)) dX6_runFaultless_55 fl_X6_236 (zk_at hM.1 rfl) rfl hM.2.2.1 ?_
        refine Ev.iconst (pc := 58) (n := (0, 0)) dX6_runFaultless_58 ?_
        refine Ev.ia (pc := 59) (n := (0, 0)) (x := ((h.1, I2, h.2.2)).2.1 3 2) dX6_runFaultless_59 (zk_at hM.1 rfl) (by omega) (by omega) rfl ?_
        refine Ev.istore (pc := 60) (n := (0, 0)) (i := 5) (L' := [(5, zi (((h.1, I2, h.2.2)).2.1 3 2)), (4, zi (((h.1, I2, h.2.2)).2.1 3 1)), (3, zi (((h.1, I2, h.2.2)).2.1 3 0)), (2, zr (some (4096 + m))), (0, zr (some 0)), (1, zi (i : Int))]) dX6_runFaultless_60 (Nat.le_of_ble_eq_true rfl) rfl ?_
        refine Ev.aload_n (pc := 62) (n := (0, 0)) (i := 0) dX6_runFaultless_62 rfl rfl ?_
        refine Ev.gR (pc := 63) (n := (0, 0)) (r := (some (oTr (σ 4)))) dX6_runFaultless_63 fl_X6_27 (zk_at hM.1 rfl) rfl hTr ?_
        refine Ev.aload_n (pc := 66) (n := (0, 0)) (i := 2) dX6_runFaultless_66 rfl rfl ?_
        refine Ev.iload_n (pc := 67) (n := (0, 0)) (i := 3) dX6_runFaultless_67 rfl rfl ?_
        refine Ev.iload (pc := 68) (n := (0, 0)) dX6_runFaultless_68 rfl ?_
        refine Ev.iload (pc := 70) (n := (0, 0)) dX6_runFaultless_70 rfl ?_
        refine Ev.callV (pc := 72) (n := (0, 0)) (ob := (oTr (σ 4))) (as := [zr (some (4096 + m)), zi (((h.1, I2, h.2.2)).2.1 3 0), zi (((h.1, I2, h.2.2)).2.1 3 1), zi (((h.1, I2, h.2.2)).2.1 3 2)]) (st := []) (hrf) dX6_runFaultless_72 ok_X5_refusal (lk_X6_208 rfl) ⟨(Nat.le_of_ble_eq_true rfl), (Nat.le_of_ble_eq_true rfl)⟩ (hK 4 (by decide)) ⟨by decide, rfl⟩ rfl (Nat.le_of_ble_eq_true rfl) (Nat.le_of_ble_eq_true rfl) ⟨(Nat.le_of_ble_eq_true rfl), (Nat.le_of_ble_eq_true rfl)⟩ ?_
        refine Ev.gsR (pc := 75) (n := (0, 0)) (i := 0) dX6_runFaultless_75 (by decide) (zgw_in (List.mem_of_getElem? (i := 461) (by decide +kernel)) rfl) ?_
        refine Ev.acmp_eq (pc := 78) (n := (0, 0)) (tgt := 83) dX6_runFaultless_78 rfl (Or.inr (Or.inr ⟨0, 0, by decide, by decide, rfl, rfl⟩)) (fun hc => ?_) (fun hc => absurd rfl hc)
        refine Ev.aload_n (pc := 83) (n := (0, 0)) (i := 0) dX6_runFaultless_83 rfl rfl ?_
        refine Ev.gR (pc := 84) (n := (0, 0)) (r := (some (oTr (σ 4)))) dX6_runFaultless_84 fl_X6_27 (zk_at hM.1 rfl) rfl hTr ?_
        refine Ev.aload_n (pc := 87) (n := (0, 0)) (i := 2) dX6_runFaultless_87 rfl rfl ?_
        refine Ev.iload_n (pc := 88) (n := (0, 0)) (i := 3) dX6_runFaultless_88 rfl rfl ?_
        refine Ev.iload (pc := 89) (n := (0, 0)) dX6_runFaultless_89 rfl ?_
        refine Ev.iload (pc := 91) (n := (0, 0)) dX6_runFaultless_91 rfl ?_
        refine Ev.callV (pc := 93) (n := (0, 0)) (ob := (oTr (σ 4))) (as := [zr (some (4096 + m)), zi (((h.1, I2, h.2.2)).2.1 3 0), zi (((h.1, I2, h.2.2)).2.1 3 1), zi (((h.1, I2, h.2.2)).2.1 3 2)]) (st := []) (kc) dX6_runFaultless_93 ok_X5_carryOut (lk_X6_216 rfl) ⟨(Nat.le_of_ble_eq_true rfl), (Nat.le_of_ble_eq_true rfl)⟩ (hK 4 (by decide)) ⟨by decide, rfl⟩ rfl (Nat.le_of_ble_eq_true rfl) (Nat.le_of_ble_eq_true rfl) ⟨(Nat.le_of_ble_eq_true rfl), (Nat.le_of_ble_eq_true rfl)⟩ ?_
        refine Ev.pop (pc := 96) (n := (0, 0)) dX6_runFaultless_96 rfl ?_
        refine Ev.iinc (pc := 97) (n := (0, 0)) (L' := [(1, zi ((i : Int) + 1)), (5, zi (((h.1, I2, h.2.2)).2.1 3 2)), (4, zi (((h.1, I2, h.2.2)).2.1 3 1)), (3, zi (((h.1, I2, h.2.2)).2.1 3 0)), (2, zr (some (4096 + m))), (0, zr (some 0))]) dX6_runFaultless_97 rfl (Nat.le_of_ble_eq_true rfl) ⟨by omega, by omega⟩ rfl ?_
        refine Ev.goto (pc := 100) (n := (0, 0)) (tgt := 9) dX6_runFaultless_100 rfl ?_
        refine Ev.perm [5, 0] rfl ?_
        exact k9
theorem s_runFaultless {h : zH} {σ : Nat → Nat} {cnt : Nat} {t : Int → Int} {L : Nat} {S : Nat → Nat × zF × Int × Int} (hS : CS h σ cnt t L S) {n : Nat} {F : zF} {ad dl : Int} (hT : TS h (oTr (σ 4)) n F ad dl) {q0 : Nat} (hG : Gd q0 n F ad dl) (hq0 : q0 + L ≤ 80000) (hb : BY t L) {d n2 : Nat} {F2 : zF} {ad2 dl2 : Int} (hR : RunsF t L (L + 1) (sk t L 0) n F ad dl d n2 F2 ad2 dl2) : ∃ (I3 : Nat → Int → Int) (R3 : Nat → Int → Option Nat), CS (h.1, I3, R3) σ cnt t L S ∧ TS (h.1, I3, R3) (oTr (σ 4)) n2 F2 ad2 dl2 ∧ (∀ o, 260 ≤ o → I3 o = h.2.1 o ∧ R3 o = h.2.2 o) ∧ Ev M_X6_runFaultless 0 [(0, zr (some 0))] [] h (0, 0) (.inl (some (zi (d : Int))), (h.1, I3, R3)) := by
  have hM := hS.1
  have hTr := hS.2.2.2.1.2
  have hcn := hS.2.2.2.2.1.1
  have hc4 := hS.2.2.2.2.1.2
  have hK : ∀ j, j < 5 → h.1[oTr (σ j)]? = some (2, 0) := fun j hj => zk_at hM.1 (KK_T _ (hS.2.2.1.1 j hj))
  have hs5 : ∀ j, j < 5 → oTr (σ j) + 51 ≤ 260 := fun j hj => by have := hS.2.2.1.1 j hj; unfold oTr; omega
  have w0 : zCk h.2.1 (zup (zup h.2.1 1 3 0) 1 4 (-1)) := (zCk.at' h.2.1 0).trans (zCk.fl _ _)
  have hL := hS.2.1.2.1
  obtain ⟨I3, R3, k1, k2, k3, k9⟩ := s_runF_loop hb (L + 1) 0 0 n F ad dl (h.1, (zup (zup h.2.1 1 3 0) 1 4 (-1)), h.2.2) q0 d n2 F2 ad2 dl2 (hS.text w0) (hT.text (by unfold oTr; omega) w0) hG (by omega) ((zup_k (zup h.2.1 1 3 0) 1 1 (-1) (show (3 : Int) ≠ 4 by decide)).trans (zup_s h.2.1 1 3 0)) (Nat.zero_le _) (by omega) (by omega) (by omega) hR
  rw [show ((0 : Nat) : Int) + (d : Int) = d by omega] at k9
  refine ⟨I3, R3, k1, k2, fun o ho => ⟨(k3 o ho).1.trans (w0.1 o (by omega) (by omega)), (k3 o ho).2⟩, ?_⟩
  refine Ev.aload_n (pc := 0) (n := (0, 0)) (i := 0) dX6_runFaultless_0 rfl rfl ?_
  refine Ev.gR (pc := 1) (n := (0, 0)) (r := (some 1)) dX6_runFaultless_1 fl_X6_10 (zk_at hM.1 rfl) rfl hM.2.2.2.1 ?_
  refine Ev.callV (pc := 4) (n := (0, 0)) (ob := 1) (as := []) (st := []) (s_rewindC hM) dX6_runFaultless_4 ok_X2_rewind (lk_X6_229 rfl) ⟨(Nat.le_of_ble_eq_true rfl), (Nat.le_of_ble_eq_true rfl)⟩ (zk_at hM.1 rfl) ⟨by decide, rfl⟩ rfl (Nat.le_of_ble_eq_true rfl) (Nat.le_of_ble_eq_true rfl) ⟨(Nat.le_of_ble_eq_true rfl), (Nat.le_of_ble_eq_true rfl)⟩ ?_
  refine Ev.iconst (pc := 7) (n := (0, 0)) dX6_runFaultless_7 ?_
  refine Ev.istore_n (pc := 8) (n := (0, 0)) (i := 1) (L' := [(1, zi 0), (0, zr (some 0))]) dX6_runFaultless_8 rfl (Nat.le_of_ble_eq_true rfl) rfl ?_
  refine Ev.perm [1, 0] rfl ?_
  exact k9
theorem s_runC_no {h : zH} {σ : Nat → Nat} {cnt : Nat} {t : Int → Int} {L : Nat} {S : Nat → Nat × zF × Int × Int} (hS : CS h σ cnt t L S) (hb : BY t L) (hf : ¬ fltF t L (L + 1) (sk t L 0) = -1) : ∃ I3 : Nat → Int → Int, zCk h.2.1 I3 ∧ Ev M_X6_runCommands 0 [(0, zr (some 0))] [] h (0, 0) (.inl (some (zi (-10 - fltF t L (L + 1) (sk t L 0)))), (h.1, I3, h.2.2)) := by
  have hM := hS.1
  have hTr := hS.2.2.2.1.2
  have hcn := hS.2.2.2.2.1.1
  have hc4 := hS.2.2.2.2.1.2
  have hK : ∀ j, j < 5 → h.1[oTr (σ j)]? = some (2, 0) := fun j hj => zk_at hM.1 (KK_T _ (hS.2.2.1.1 j hj))
  have hs5 : ∀ j, j < 5 → oTr (σ j) + 51 ≤ 260 := fun j hj => by have := hS.2.2.1.1 j hj; unfold oTr; omega
  have hL := hS.2.1.2.1
  obtain ⟨I3, q1, kf⟩ := s_findFaultC hM hS.2.1 hb
  refine ⟨I3, q1, ?_⟩
  refine Ev.aload_n (pc := 0) (n := (0, 0)) (i := 0) dX6_runCommands_0 rfl rfl ?_
  refine Ev.gR (pc := 1) (n := (0, 0)) (r := (some 1)) dX6_runCommands_1 fl_X6_10 (zk_at hM.1 rfl) rfl hM.2.2.2.1 ?_
  refine Ev.callV (pc := 4) (n := (0, 0)) (ob := 1) (as := []) (st := []) (kf) dX6_runCommands_4 ok_X2_findFault (lk_X6_138 rfl) ⟨(Nat.le_of_ble_eq_true rfl), (Nat.le_of_ble_eq_true rfl)⟩ (zk_at hM.1 rfl) ⟨by decide, rfl⟩ rfl (Nat.le_of_ble_eq_true rfl) (Nat.le_of_ble_eq_true rfl) ⟨(Nat.le_of_ble_eq_true rfl), (Nat.le_of_ble_eq_true rfl)⟩ ?_
  refine Ev.istore_n (pc := 7) (n := (0, 0)) (i := 1) (L' := [(1, zi (fltF t L (L + 1) (sk t L 0))), (0, zr (some 0))]) dX6_runCommands_7 rfl (Nat.le_of_ble_eq_true rfl) rfl ?_
  refine Ev.iload_n (pc := 8) (n := (0, 0)) (i := 1) dX6_runCommands_8 rfl rfl ?_
  refine Ev.iconst (pc := 9) (n := (0, 0)) dX6_runCommands_9 ?_
  refine Ev.icmp_eq (pc := 10) (n := (0, 0)) (tgt := 18) dX6_runCommands_10 rfl (fun hc => absurd hc hf) (fun hc => ?_)
  have hfr := fltF_rng t L (L + 1) (sk t L 0) ((sk_ge t L 0).2 (Nat.zero_le _))
  refine Ev.bipush (pc := 13) (n := (0, 0)) dX6_runCommands_13 ?_
  refine Ev.iload_n (pc := 15) (n := (0, 0)) (i := 1) dX6_runCommands_15 rfl rfl ?_
  refine Ev.isub (pc := 16) (n := (0, 0)) dX6_runCommands_16 ⟨by omega, by omega⟩ ?_
  exact Ev.iret dX6_runCommands_17 rfl ⟨(Nat.le_of_ble_eq_true rfl), (Nat.le_of_ble_eq_true rfl)⟩
theorem s_runC {h : zH} {σ : Nat → Nat} {cnt : Nat} {t : Int → Int} {L : Nat} {S : Nat → Nat × zF × Int × Int} (hS : CS h σ cnt t L S) {n : Nat} {F : zF} {ad dl : Int} (hT : TS h (oTr (σ 4)) n F ad dl) {q0 : Nat} (hG : Gd q0 n F ad dl) (hq0 : q0 + L ≤ 80000) (hb : BY t L) (hf : fltF t L (L + 1) (sk t L 0) = -1) {d n2 : Nat} {F2 : zF} {ad2 dl2 : Int} (hR : RunsF t L (L + 1) (sk t L 0) n F ad dl d n2 F2 ad2 dl2) : ∃ (σ2 : Nat → Nat) (I3 : Nat → Int → Int) (R3 : Nat → Int → Option Nat), CS (h.1, I3, R3) σ2 (if cnt = 4 then 4 else cnt + 1) t L (svS cnt S (n, F, ad, dl)) ∧ TS (h.1, I3, R3) (oTr (σ2 4)) n2 F2 ad2 dl2 ∧ (∀ o, 260 ≤ o → I3 o = h.2.1 o ∧ R3 o = h.2.2 o) ∧ Ev M_X6_runCommands 0 [(0, zr (some 0))] [] h (0, 0) (.inl (some (zi (d : Int))), (h.1, I3, R3)) := by
  have hM := hS.1
  have hTr := hS.2.2.2.1.2
  have hcn := hS.2.2.2.2.1.1
  have hc4 := hS.2.2.2.2.1.2
  have hK : ∀ j, j < 5 → h.1[oTr (σ j)]? = some (2, 0) := fun j hj => zk_at hM.1 (KK_T _ (hS.2.2.1.1 j hj))
  have hs5 : ∀ j, j < 5 → oTr (σ j) + 51 ≤ 260 := fun j hj => by have := hS.2.2.1.1 j hj; unfold oTr; omega
  obtain ⟨I1, q1, kf⟩ := s_findFaultC hM hS.2.1 hb
  rw [hf] at kf
  obtain ⟨σ2, I2, R2, k1, k2, k3, k4, k5⟩ := s_save (h := (h.1, I1, h.2.2)) (hS.text q1) (hT.text (by unfold oTr; omega) q1)
  obtain ⟨I3, R3, k6, k7, k8, k9⟩ := s_runFaultless k1 k3 hG hq0 hb hR
  refine ⟨σ2, I3, R3, k6, k7, fun o ho => ?_, ?_⟩
  · have b1 := k8 o ho
    have b2 := k4 o (Or.inr ho)
    exact ⟨b1.1.trans (b2.1.trans (q1.1 o (by omega) (by omega))), b1.2.trans b2.2⟩
  refine Ev.aload_n (pc := 0) (n := (0, 0)) (i := 0) dX6_runCommands_0 rfl rfl ?_
  refine Ev.gR (pc := 1) (n := (0, 0)) (r := (some 1)) dX6_runCommands_1 fl_X6_10 (zk_at hM.1 rfl) rfl hM.2.2.2.1 ?_
  refine Ev.callV (pc := 4) (n := (0, 0)) (ob := 1) (as := []) (st := []) (kf) dX6_runCommands_4 ok_X2_findFault (lk_X6_138 rfl) ⟨(Nat.le_of_ble_eq_true rfl), (Nat.le_of_ble_eq_true rfl)⟩ (zk_at hM.1 rfl) ⟨by decide, rfl⟩ rfl (Nat.le_of_ble_eq_true rfl) (Nat.le_of_ble_eq_true rfl) ⟨(Nat.le_of_ble_eq_true rfl), (Nat.le_of_ble_eq_true rfl)⟩ ?_
  refine Ev.istore_n (pc := 7) (n := (0, 0)) (i := 1) (L' := [(1, zi (-1)), (0, zr (some 0))]) dX6_runCommands_7 rfl (Nat.le_of_ble_eq_true rfl) rfl ?_
  refine Ev.iload_n (pc := 8) (n := (0, 0)) (i := 1) dX6_runCommands_8 rfl rfl ?_
  refine Ev.iconst (pc := 9) (n := (0, 0)) dX6_runCommands_9 ?_
  refine Ev.icmp_eq (pc := 10) (n := (0, 0)) (tgt := 18) dX6_runCommands_10 rfl (fun hc => ?_) (fun hc => absurd rfl hc)
  refine Ev.aload_n (pc := 18) (n := (0, 0)) (i := 0) dX6_runCommands_18 rfl rfl ?_
  refine Ev.callV (pc := 19) (n := (0, 0)) (ob := 0) (as := []) (st := []) (k5) dX6_runCommands_19 ok_X6_save (lk_X6_141 rfl) ⟨(Nat.le_of_ble_eq_true rfl), (Nat.le_of_ble_eq_true rfl)⟩ (zk_at hM.1 rfl) ⟨by decide, rfl⟩ rfl (Nat.le_of_ble_eq_true rfl) (Nat.le_of_ble_eq_true rfl) ⟨(Nat.le_of_ble_eq_true rfl), (Nat.le_of_ble_eq_true rfl)⟩ ?_
  refine Ev.aload_n (pc := 22) (n := (0, 0)) (i := 0) dX6_runCommands_22 rfl rfl ?_
  refine Ev.callV (pc := 23) (n := (0, 0)) (ob := 0) (as := []) (st := []) (k9) dX6_runCommands_23 ok_X6_runFaultless (lk_X6_144 rfl) ⟨(Nat.le_of_ble_eq_true rfl), (Nat.le_of_ble_eq_true rfl)⟩ (zk_at hM.1 rfl) ⟨by decide, rfl⟩ rfl (Nat.le_of_ble_eq_true rfl) (Nat.le_of_ble_eq_true rfl) ⟨(Nat.le_of_ble_eq_true rfl), (Nat.le_of_ble_eq_true rfl)⟩ ?_
  exact Ev.iret dX6_runCommands_26 rfl ⟨(Nat.le_of_ble_eq_true rfl), (Nat.le_of_ble_eq_true rfl)⟩
theorem s_wholeValueC {h : zH} {σ : Nat → Nat} {cnt : Nat} {t : Int → Int} {L : Nat} {S : Nat → Nat × zF × Int × Int} (hS : CS h σ cnt t L S) {n : Nat} {F : zF} {ad dl : Int} {ar q : Nat → Nat} (hC : CT h (oTr (σ 4)) n F ad dl ar q) {dep : Nat → Nat} {B : Int} (hw : WF n F dep B) (hB : 24 * (60 + B) ≤ 1000000000) {len st sl dp : Int → Int} (hl : IsLen n F len) (ht : IsTm n F len st sl dp) (hP : PLN h n F len st sl dp ar q) (hd : 0 ≤ dl ∧ dl ≤ 999) {mm : Nat} {A : Nat → Nat} (hcr : CritTo F st sl n mm A) {w : Int} (hw3 : 0 ≤ w ∧ w ≤ 11) : Ev M_X6_wholeValue 0 [(0, zr (some 0)), (1, zi w)] [] h (0, 0) (.inl (some (zi (mwh n F len st sl dl ad mm (L : Int) w))), h) := by
  have hM := hS.1
  have hTr := hS.2.2.2.1.2
  have hcn := hS.2.2.2.2.1.1
  have hc4 := hS.2.2.2.2.1.2
  have hK : ∀ j, j < 5 → h.1[oTr (σ j)]? = some (2, 0) := fun j hj => zk_at hM.1 (KK_T _ (hS.2.2.1.1 j hj))
  have hs5 : ∀ j, j < 5 → oTr (σ j) + 51 ≤ 260 := fun j hj => by have := hS.2.2.1.1 j hj; unfold oTr; omega
  refine Ev.iload_n (pc := 0) (n := (0, 0)) (i := 1) dX6_wholeValue_0 rfl rfl ?_
  refine Ev.bipush (pc := 1) (n := (0, 0)) dX6_wholeValue_1 ?_
  refine Ev.icmp_ne (pc := 3) (n := (0, 0)) (tgt := 16) dX6_wholeValue_3 rfl (fun hc => ?_) (fun hc => ?_)
  · skip
    refine Ev.aload_n (pc := 16) (n := (0, 0)) (i := 0) dX6_wholeValue_16 rfl rfl ?_
    refine Ev.gR (pc := 17) (n := (0, 0)) (r := (some (oTr (σ 4)))) dX6_wholeValue_17 fl_X6_27 (zk_at hM.1 rfl) rfl hTr ?_
    refine Ev.iload_n (pc := 20) (n := (0, 0)) (i := 1) dX6_wholeValue_20 rfl rfl ?_
    refine Ev.callV (pc := 21) (n := (0, 0)) (ob := (oTr (σ 4))) (as := [zi w]) (st := []) (s_valueC hC hw hB hl ht hP hd hcr (lg := (L : Int)) (w := w) (by omega)) dX6_wholeValue_21 ok_X5_value (lk_X6_243 rfl) ⟨(Nat.le_of_ble_eq_true rfl), (Nat.le_of_ble_eq_true rfl)⟩ (hK 4 (by decide)) ⟨by decide, rfl⟩ rfl (Nat.le_of_ble_eq_true rfl) (Nat.le_of_ble_eq_true rfl) ⟨(Nat.le_of_ble_eq_true rfl), (Nat.le_of_ble_eq_true rfl)⟩ ?_
    exact Ev.iret dX6_wholeValue_24 rfl ⟨(Nat.le_of_ble_eq_true rfl), (Nat.le_of_ble_eq_true rfl)⟩
  · skip
    have hc2 : w = 11 := hc
    subst hc2
    have e : mwh n F len st sl dl ad mm (L : Int) 11 = (L : Int) := rfl
    rw [e]
    refine Ev.aload_n (pc := 6) (n := (0, 0)) (i := 0) dX6_wholeValue_6 rfl rfl ?_
    refine Ev.gR (pc := 7) (n := (0, 0)) (r := (some 1)) dX6_wholeValue_7 fl_X6_10 (zk_at hM.1 rfl) rfl hM.2.2.2.1 ?_
    refine Ev.gI (pc := 10) (n := (0, 0)) (x := (L : Int)) dX6_wholeValue_10 fl_X6_135 (zk_at hM.1 rfl) rfl hS.2.1.1 ?_
    refine Ev.goto (pc := 13) (n := (0, 0)) (tgt := 24) dX6_wholeValue_13 rfl ?_
    exact Ev.iret dX6_wholeValue_24 rfl ⟨(Nat.le_of_ble_eq_true rfl), (Nat.le_of_ble_eq_true rfl)⟩
theorem s_dig_loop {h : zH} {σ : Nat → Nat} {cnt : Nat} {t : Int → Int} {L : Nat} {S : Nat → Nat × zF × Int × Int} (hS : CS h σ cnt t L S) {n : Nat} {F : zF} {ad dl : Int} {ar q : Nat → Nat} (hC : CT h (oTr (σ 4)) n F ad dl ar q) {dep : Nat → Nat} {B : Int} (hw : WF n F dep B) (hB : 24 * (60 + B) ≤ 1000000000) {len st sl dp : Int → Int} (hl : IsLen n F len) (ht : IsTm n F len st sl dp) (hP : PLN h n F len st sl dp ar q) (hd : 0 ≤ dl ∧ dl ≤ 999) {mm : Nat} {A : Nat → Nat} (hcr : CritTo F st sl n mm A) {o : zO} (K : Ev M_X6_digest 35 [(0, zr (some 0)), (1, zl (zfold (gWh n F len st sl dl ad mm (L : Int)) (zmix 43828 (cnt : Int)) 12)), (3, zi 12)] [] h (0, 0) o) : ∀ (j i : Nat), i + j = 12 → Ev M_X6_digest 13 [(0, zr (some 0)), (1, zl (zfold (gWh n F len st sl dl ad mm (L : Int)) (zmix 43828 (cnt : Int)) i)), (3, zi (i : Int))] [] h (0, 0) o := by
  intro j
  have hM := hS.1
  have hTr := hS.2.2.2.1.2
  have hcn := hS.2.2.2.2.1.1
  have hc4 := hS.2.2.2.2.1.2
  have hK : ∀ j, j < 5 → h.1[oTr (σ j)]? = some (2, 0) := fun j hj => zk_at hM.1 (KK_T _ (hS.2.2.1.1 j hj))
  have hs5 : ∀ j, j < 5 → oTr (σ j) + 51 ≤ 260 := fun j hj => by have := hS.2.2.1.1 j hj; unfold oTr; omega
  induction j with
  | zero =>
    intro i hij
    have e : i = 12 := by omega
    subst e
    refine Ev.iload_n (pc := 13) (n := (0, 0)) (i := 3) dX6_digest_13 rfl rfl ?_
    refine Ev.bipush (pc := 14) (n := (0, 0)) dX6_digest_14 ?_
    refine Ev.icmp_ge (pc := 16) (n := (0, 0)) (tgt := 35) dX6_digest_16 rfl (fun hc => ?_) (fun hc => absurd hc (by decide))
    exact K
  | succ j ih =>
    intro i hij
    have k9 := ih (i + 1) (by omega)
    refine Ev.iload_n (pc := 13) (n := (0, 0)) (i := 3) dX6_digest_13 rfl rfl ?_
    refine Ev.bipush (pc := 14) (n := (0, 0)) dX6_digest_14 ?_
    refine Ev.icmp_ge (pc := 16) (n := (0, 0)) (tgt := 35) dX6_digest_16 rfl (fun hc => absurd hc (by omega)) (fun hc => ?_)
    refine Ev.lload_n (pc := 19) (n := (0, 0)) (i := 1) dX6_digest_19 rfl rfl ?_
    refine Ev.aload_n (pc := 20) (n := (0, 0)) (i := 0) dX6_digest_20 rfl rfl ?_
    refine Ev.iload_n (pc := 21) (n := (0, 0)) (i := 3) dX6_digest_21 rfl rfl ?_
    refine Ev.callV (pc := 22) (n := (0, 0)) (ob := 0) (as := [zi ((i : Nat) : Int)]) (st := [zl (zfold (gWh n F len st sl dl ad mm (L : Int)) (zmix 43828 (cnt : Int)) i)]) (s_wholeValueC hS hC hw hB hl ht hP hd hcr (w := (i : Int)) (by omega)) dX6_digest_22 ok_X6_wholeValue (lk_X6_97 rfl) ⟨(Nat.le_of_ble_eq_true rfl), (Nat.le_of_ble_eq_true rfl)⟩ (zk_at hM.1 rfl) ⟨by decide, rfl⟩ rfl (Nat.le_of_ble_eq_true rfl) (Nat.le_of_ble_eq_true rfl) ⟨(Nat.le_of_ble_eq_true rfl), (Nat.le_of_ble_eq_true rfl)⟩ ?_
    refine Ev.callS (pc := 25) (n := (0, 0)) (as := [zl (zfold (gWh n F len st sl dl ad mm (L : Int)) (zmix 43828 (cnt : Int)) i), zi (mwh n F len st sl dl ad mm (L : Int) (i : Int))]) (st := []) (s_mix h (zfold (gWh n F len st sl dl ad mm (L : Int)) (zmix 43828 (cnt : Int)) i) (mwh n F len st sl dl ad mm (L : Int) (i : Int))) dX6_digest_25 ok_X6_mix (lk_X6_154 rfl) ⟨(Nat.le_of_ble_eq_true rfl), (Nat.le_of_ble_eq_true rfl)⟩ rfl (Nat.le_of_ble_eq_true rfl) (Nat.le_of_ble_eq_true rfl) ⟨(Nat.le_of_ble_eq_true rfl), (Nat.le_of_ble_eq_true rfl)⟩ ?_
    refine Ev.lstore_n (pc := 28) (n := (0, 0)) (i := 1) (L' := [(1, zl (zfold (gWh n F len st sl dl ad mm (L : Int)) (zmix 43828 (cnt : Int)) (i + 1))), (0, zr (some 0)), (3, zi ((i : Nat) : Int))]) dX6_digest_28 rfl (Nat.le_of_ble_eq_true rfl) rfl ?_
    refine Ev.iinc (pc := 29) (n := (0, 0)) (L' := [(3, zi (((i : Nat) : Int) + 1)), (1, zl (zfold (gWh n F len st sl dl ad mm (L : Int)) (zmix 43828 (cnt : Int)) (i + 1))), (0, zr (some 0))]) dX6_digest_29 rfl (Nat.le_of_ble_eq_true rfl) ⟨by omega, by omega⟩ rfl ?_
    refine Ev.goto (pc := 32) (n := (0, 0)) (tgt := 13) dX6_digest_32 rfl ?_
    refine Ev.perm [2, 1, 0] rfl ?_
    exact k9
theorem s_digestC {h : zH} {σ : Nat → Nat} {cnt : Nat} {t : Int → Int} {L : Nat} {S : Nat → Nat × zF × Int × Int} (hS : CS h σ cnt t L S) {n : Nat} {F : zF} {ad dl : Int} {ar q : Nat → Nat} (hC : CT h (oTr (σ 4)) n F ad dl ar q) {dep : Nat → Nat} {B : Int} (hw : WF n F dep B) (hB : 24 * (60 + B) ≤ 1000000000) {len st sl dp : Int → Int} (hl : IsLen n F len) (ht : IsTm n F len st sl dp) (hP : PLN h n F len st sl dp ar q) (hd : 0 ≤ dl ∧ dl ≤ 999) {mm : Nat} {A : Nat → Nat} (hcr : CritTo F st sl n mm A) {dep9 : Nat → Nat} {B9 : Int} (hB9 : 24 * (60 + B9) ≤ 1000000000) {C : Nat → Int} (hCs : IsCuts n F dep9 B9 C) {c : Int} (hc9 : IsCut n F C (len 0) 0 c) : Ev M_X6_digest 0 [(0, zr (some 0))] [] h (0, 0) (.inl (some (zl (mdig n F len st sl dp dl ad mm (L : Int) A (cnt : Int) c))), h) := by
  have hM := hS.1
  have hTr := hS.2.2.2.1.2
  have hcn := hS.2.2.2.2.1.1
  have hc4 := hS.2.2.2.2.1.2
  have hK : ∀ j, j < 5 → h.1[oTr (σ j)]? = some (2, 0) := fun j hj => zk_at hM.1 (KK_T _ (hS.2.2.1.1 j hj))
  have hs5 : ∀ j, j < 5 → oTr (σ j) + 51 ≤ 260 := fun j hj => by have := hS.2.2.1.1 j hj; unfold oTr; omega
  refine Ev.ldc2 (pc := 0) (n := (0, 0)) (own := "") dX6_digest_0 (lc_X6_152 rfl) ?_
  refine Ev.aload_n (pc := 3) (n := (0, 0)) (i := 0) dX6_digest_3 rfl rfl ?_
  refine Ev.gI (pc := 4) (n := (0, 0)) (x := (cnt : Int)) dX6_digest_4 fl_X6_22 (zk_at hM.1 rfl) rfl hcn ?_
  refine Ev.callS (pc := 7) (n := (0, 0)) (as := [zl 43828, zi (cnt : Int)]) (st := []) (s_mix h 43828 (cnt : Int)) dX6_digest_7 ok_X6_mix (lk_X6_154 rfl) ⟨(Nat.le_of_ble_eq_true rfl), (Nat.le_of_ble_eq_true rfl)⟩ rfl (Nat.le_of_ble_eq_true rfl) (Nat.le_of_ble_eq_true rfl) ⟨(Nat.le_of_ble_eq_true rfl), (Nat.le_of_ble_eq_true rfl)⟩ ?_
  refine Ev.lstore_n (pc := 10) (n := (0, 0)) (i := 1) (L' := [(1, zl (zmix 43828 (cnt : Int))), (0, zr (some 0))]) dX6_digest_10 rfl (Nat.le_of_ble_eq_true rfl) rfl ?_
  refine Ev.iconst (pc := 11) (n := (0, 0)) dX6_digest_11 ?_
  refine Ev.istore_n (pc := 12) (n := (0, 0)) (i := 3) (L' := [(3, zi 0), (1, zl (zmix 43828 (cnt : Int))), (0, zr (some 0))]) dX6_digest_12 rfl (Nat.le_of_ble_eq_true rfl) rfl ?_
  refine Ev.perm [2, 1, 0] rfl ?_
  refine s_dig_loop hS hC hw hB hl ht hP hd hcr ?_ 12 0 rfl
  refine Ev.aload_n (pc := 35) (n := (0, 0)) (i := 0) dX6_digest_35 rfl rfl ?_
  refine Ev.gR (pc := 36) (n := (0, 0)) (r := (some (oTr (σ 4)))) dX6_digest_36 fl_X6_27 (zk_at hM.1 rfl) rfl hTr ?_
  refine Ev.lload_n (pc := 39) (n := (0, 0)) (i := 1) dX6_digest_39 rfl rfl ?_
  refine Ev.callV (pc := 40) (n := (0, 0)) (ob := (oTr (σ 4))) (as := [zl (zfold (gWh n F len st sl dl ad mm (L : Int)) (zmix 43828 (cnt : Int)) 12)]) (st := []) (s_mixNodes hC hw hB hl ht hP (a := (zfold (gWh n F len st sl dl ad mm (L : Int)) (zmix 43828 (cnt : Int)) 12))) dX6_digest_40 ok_X5_mixNodes (lk_X6_158 rfl) ⟨(Nat.le_of_ble_eq_true rfl), (Nat.le_of_ble_eq_true rfl)⟩ (hK 4 (by decide)) ⟨by decide, rfl⟩ rfl (Nat.le_of_ble_eq_true rfl) (Nat.le_of_ble_eq_true rfl) ⟨(Nat.le_of_ble_eq_true rfl), (Nat.le_of_ble_eq_true rfl)⟩ ?_
  refine Ev.lstore_n (pc := 43) (n := (0, 0)) (i := 1) (L' := [(1, zl (dNodes n F len st sl dp (zfold (gWh n F len st sl dl ad mm (L : Int)) (zmix 43828 (cnt : Int)) 12) n)), (0, zr (some 0)), (3, zi 12)]) dX6_digest_43 rfl (Nat.le_of_ble_eq_true rfl) rfl ?_
  refine Ev.aload_n (pc := 44) (n := (0, 0)) (i := 0) dX6_digest_44 rfl rfl ?_
  refine Ev.gR (pc := 45) (n := (0, 0)) (r := (some (oTr (σ 4)))) dX6_digest_45 fl_X6_27 (zk_at hM.1 rfl) rfl hTr ?_
  refine Ev.lload_n (pc := 48) (n := (0, 0)) (i := 1) dX6_digest_48 rfl rfl ?_
  refine Ev.callV (pc := 49) (n := (0, 0)) (ob := (oTr (σ 4))) (as := [zl (dNodes n F len st sl dp (zfold (gWh n F len st sl dl ad mm (L : Int)) (zmix 43828 (cnt : Int)) 12) n)]) (st := []) (s_mixCritical hC hw hB hl ht hP hcr (a := (dNodes n F len st sl dp (zfold (gWh n F len st sl dl ad mm (L : Int)) (zmix 43828 (cnt : Int)) 12) n))) dX6_digest_49 ok_X5_mixCritical (lk_X6_162 rfl) ⟨(Nat.le_of_ble_eq_true rfl), (Nat.le_of_ble_eq_true rfl)⟩ (hK 4 (by decide)) ⟨by decide, rfl⟩ rfl (Nat.le_of_ble_eq_true rfl) (Nat.le_of_ble_eq_true rfl) ⟨(Nat.le_of_ble_eq_true rfl), (Nat.le_of_ble_eq_true rfl)⟩ ?_
  refine Ev.lstore_n (pc := 52) (n := (0, 0)) (i := 1) (L' := [(1, zl (zfold (gCrit F A) (dNodes n F len st sl dp (zfold (gWh n F len st sl dl ad mm (L : Int)) (zmix 43828 (cnt : Int)) 12) n) mm)), (0, zr (some 0)), (3, zi 12)]) dX6_digest_52 rfl (Nat.le_of_ble_eq_true rfl) rfl ?_
  refine Ev.lload_n (pc := 53) (n := (0, 0)) (i := 1) dX6_digest_53 rfl rfl ?_
  refine Ev.aload_n (pc := 54) (n := (0, 0)) (i := 0) dX6_digest_54 rfl rfl ?_
  refine Ev.gR (pc := 55) (n := (0, 0)) (r := (some (oTr (σ 4)))) dX6_digest_55 fl_X6_27 (zk_at hM.1 rfl) rfl hTr ?_
  refine Ev.callV (pc := 58) (n := (0, 0)) (ob := (oTr (σ 4))) (as := []) (st := [zl (zfold (gCrit F A) (dNodes n F len st sl dp (zfold (gWh n F len st sl dl ad mm (L : Int)) (zmix 43828 (cnt : Int)) 12) n) mm)]) (s_cutC hC hw hB hl ht hP hB9 hCs hc9) dX6_digest_58 ok_X5_cutNumber (lk_X6_113 rfl) ⟨(Nat.le_of_ble_eq_true rfl), (Nat.le_of_ble_eq_true rfl)⟩ (hK 4 (by decide)) ⟨by decide, rfl⟩ rfl (Nat.le_of_ble_eq_true rfl) (Nat.le_of_ble_eq_true rfl) ⟨(Nat.le_of_ble_eq_true rfl), (Nat.le_of_ble_eq_true rfl)⟩ ?_
  refine Ev.callS (pc := 61) (n := (0, 0)) (as := [zl (zfold (gCrit F A) (dNodes n F len st sl dp (zfold (gWh n F len st sl dl ad mm (L : Int)) (zmix 43828 (cnt : Int)) 12) n) mm), zi c]) (st := []) (s_mix h (zfold (gCrit F A) (dNodes n F len st sl dp (zfold (gWh n F len st sl dl ad mm (L : Int)) (zmix 43828 (cnt : Int)) 12) n) mm) c) dX6_digest_61 ok_X6_mix (lk_X6_154 rfl) ⟨(Nat.le_of_ble_eq_true rfl), (Nat.le_of_ble_eq_true rfl)⟩ rfl (Nat.le_of_ble_eq_true rfl) (Nat.le_of_ble_eq_true rfl) ⟨(Nat.le_of_ble_eq_true rfl), (Nat.le_of_ble_eq_true rfl)⟩ ?_
  exact Ev.lret dX6_digest_64 rfl ⟨(Nat.le_of_ble_eq_true rfl), (Nat.le_of_ble_eq_true rfl)⟩
