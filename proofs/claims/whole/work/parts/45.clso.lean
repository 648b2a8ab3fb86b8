/-! ===== the class: carrying out ===== -/
/-- a tree with its plan told -/
def TS (h : zH) (T n : Nat) (F : zF) (ad dl : Int) : Prop := ∃ (ar q : Nat → Nat) (len st sl dp : Int → Int), CT h T n F ad dl ar q ∧ IsLen n F len ∧ IsTm n F len st sl dp ∧ PLN h n F len st sl dp ar q
theorem WF.nn {n : Nat} {F : zF} {dep : Nat → Nat} {B : Int} (hw : WF n F dep B) {p : Nat} (hp : p < n) : 0 ≤ F p 0 := by
  by_cases e : p = 0
  · subst e
    have := hw.2.1.1
    show 0 ≤ F 0 0
    omega
  · have a := hw.2.2.1 0 p (by omega) hp
    have b := hw.2.1.1
    have c : F ((0 : Nat) : Int) 0 = F 0 0 := rfl
    omega
theorem CT.dln {h : zH} {T n : Nat} {F : zF} {ad dl : Int} {ar q : Nat → Nat} (hC : CT h T n F ad dl ar q) (d : Int) : CT (h.1, zup h.2.1 T 4 d, h.2.2) T n F ad d ar q := by
  have hn := hC.n24
  refine hC.set ⟨?_, ?_, ?_⟩ ⟨rfl, rfl⟩ (fun i hi => hC.a24 hi) (fun i hi => ⟨i, hi, rfl⟩) hC.2.1.2.2.1 rfl (fun _ _ => rfl) (fun j hj => ?_) hC.2.2.1.1 hC.2.2.1.2 (fun j hj => ?_) rfl (fun k h1 h2 h3 => ?_) hC.2.2.2.2.2
  · rw [zup_k _ _ _ _ (by decide)]; exact hC.tri.1
  · rw [zup_k _ _ _ _ (by decide)]; exact hC.tri.2.1
  · rw [zup_s]
  · have s := hC.sep hj
    rw [zup_o _ _ _ _ (by omega)]; exact hC.tk hj
  · have s := hC.sep (show j < 24 by omega)
    have e : (zup h.2.1 T 4 d) (ar j) = h.2.1 (ar j) := funext fun k => zup_o _ _ _ _ (by omega)
    have c0 := hC.c0 hj
    have c1 := hC.c1 hj
    have c2 := hC.c2 hj
    have c3 := hC.c3 hj
    have c4 := hC.c4 hj
    have c5 := hC.c5 hj
    refine ⟨?_, ?_, ?_, ?_, ?_, ?_⟩
    · exact (congrFun e 0).trans c0
    · exact (congrFun e 1).trans c1
    · exact (congrFun e 2).trans c2
    · exact (congrFun e 3).trans c3
    · exact (congrFun e 4).trans c4
    · exact (congrFun e 5).trans c5
  · have s := hC.sep (show 0 < 24 by omega)
    exact zup_o _ _ _ _ (by omega)
theorem PLN.dln {h : zH} {T n : Nat} {F : zF} {ad dl : Int} {ar q : Nat → Nat} (hC : CT h T n F ad dl ar q) {len st sl dp : Int → Int} (hP : PLN h n F len st sl dp ar q) (d : Int) : PLN (h.1, zup h.2.1 T 4 d, h.2.2) n F len st sl dp ar q := fun i hi => by
  have hn := hC.n24
  have s := hC.sep (show i < 24 by omega)
  have e : (zup h.2.1 T 4 d) (ar i) = h.2.1 (ar i) := funext fun k => zup_o _ _ _ _ (by omega)
  have e1 : (zup h.2.1 T 4 d) (ar i + 1) = h.2.1 (ar i + 1) := funext fun k => zup_o _ _ _ _ (by omega)
  obtain ⟨⟨p0, p1, p2, p3, p4, p5⟩, r, u, w⟩ := hP i hi
  exact ⟨⟨(congrFun e 8).trans p0, (congrFun e 9).trans p1, (congrFun e 10).trans p2, (congrFun e 11).trans p3, (congrFun e 12).trans p4, (congrFun e 13).trans p5⟩, fun r' h0 h4 => (congrFun e1 r').trans (r r' h0 h4), u, w⟩
theorem s_carryOut0 {h : zH} {T n : Nat} {F : zF} {ad dl : Int} {ar q : Nat → Nat} (hC : CT h T n F ad dl ar q) {len st sl dp : Int → Int} (hl : IsLen n F len) (ht : IsTm n F len st sl dp) (hP : PLN h n F len st sl dp ar q) {q0 : Nat} (hG : Gd q0 n F ad dl) (hq0 : q0 ≤ 80000) {a b c : Int} (hw9 : IsWhy n F 1 a b c 0) {n2 : Nat} {F2 : zF} {ad2 dl2 ans : Int} (hc9 : IsChg n F ad dl 1 a b c n2 F2 ad2 dl2 ans) : ∃ (I3 : Nat → Int → Int) (R3 : Nat → Int → Option Nat), (TS (h.1, I3, R3) T n2 F2 ad2 dl2 ∧ ∀ o, (o < T ∨ T + 51 ≤ o) → I3 o = h.2.1 o ∧ R3 o = h.2.2 o) ∧ Ev M_X5_carryOut 0 [(0, zr (some T)), (1, zr (some (4096 + 0))), (2, zi a), (3, zi b), (4, zi c)] [] h (0, 0) (.inl (some (zi ans)), (h.1, I3, R3)) := by
  have hG2 := hG.step hw9 hc9
  obtain ⟨⟨dep, hw⟩, hN, hA, hD⟩ := hG
  obtain ⟨⟨dep2, hw2⟩, -, -, -⟩ := hG2
  have hB : 24 * (60 + 99 * (q0 : Int)) ≤ 1000000000 := by omega
  have hB2 : 24 * (60 + 99 * ((q0 + 1 : Nat) : Int)) ≤ 1000000000 := by omega
  have hk := hc9.k1
  obtain ⟨rfl, rfl, rfl, rfl, rfl⟩ := hk
  obtain ⟨k, hzk, hkn, hk0, hr, hd, hp1, hn24⟩ := wAdd_pos (hw9.k1).symm
  obtain ⟨len2, st2, sl2, dp2, hl2, ht2⟩ := plan_ex hw2
  obtain ⟨j, hj, ej, k1⟩ := s_find_some hC hw hzk
  subst ej
  subst hk0
  have hn := hC.n24
  have hr9 : (1 : Int) ≤ ans ∧ ans ≤ 80001 := by omega
  obtain ⟨I3, R3, ⟨hC3, hP3, hfr⟩, k2⟩ := s_addNode hC (by omega) (by omega) hj (Or.inl rfl) hw2 hB2 hl2 ht2
  refine ⟨I3, R3, ⟨⟨_, _, len2, st2, sl2, dp2, hC3, hl2, ht2, hP3⟩, hfr⟩, ?_⟩
  refine Ev.aload_n (pc := 0) (n := (0, 0)) (i := 1) dX5_carryOut_0 rfl rfl ?_
  refine Ev.gsC (pc := 1) (n := (0, 0)) (i := 7) dX5_carryOut_1 (by decide) (zgw_in (List.mem_of_getElem? (i := 418) (by decide +kernel)) rfl) ?_
  refine Ev.acmp_ne (pc := 4) (n := (0, 0)) (tgt := 17) dX5_carryOut_4 rfl (Or.inr (Or.inl ⟨0, 7, by decide, by decide, rfl, rfl⟩)) (fun hc => ?_) (fun hc => absurd hc (by decide))
  refine Ev.aload_n (pc := 17) (n := (0, 0)) (i := 0) dX5_carryOut_17 rfl rfl ?_
  refine Ev.iload_n (pc := 18) (n := (0, 0)) (i := 2) dX5_carryOut_18 rfl rfl ?_
  refine Ev.callV (pc := 19) (n := (0, 0)) (ob := T) (as := [zi (F (q j) 0)]) (st := []) (k1) dX5_carryOut_19 ok_X5_find (lk_X5_126 rfl) ⟨(Nat.le_of_ble_eq_true rfl), (Nat.le_of_ble_eq_true rfl)⟩ hC.1.1.1 ⟨by decide, rfl⟩ rfl (Nat.le_of_ble_eq_true rfl) (Nat.le_of_ble_eq_true rfl) ⟨(Nat.le_of_ble_eq_true rfl), (Nat.le_of_ble_eq_true rfl)⟩ ?_
  refine Ev.astore (pc := 22) (n := (0, 0)) (i := 5) (L' := [(5, zr (some (ar j))), (0, zr (some T)), (1, zr (some (4096 + 0))), (2, zi (F (q j) 0)), (3, zi b), (4, zi c)]) dX5_carryOut_22 (Nat.le_of_ble_eq_true rfl) rfl ?_
  refine Ev.aload (pc := 24) (n := (0, 0)) dX5_carryOut_24 rfl ?_
  refine Ev.ifnonnull (pc := 26) (n := (0, 0)) (tgt := 31) dX5_carryOut_26 rfl (fun x9 hc => ?_) (fun hc => nomatch hc)
  refine Ev.gsW (pc := 31) (n := (0, 0)) dX5_carryOut_31 (zgw_in (List.mem_of_getElem? (i := 436) (by decide +kernel)) rfl) ?_
  refine Ev.aload_n (pc := 34) (n := (0, 0)) (i := 1) dX5_carryOut_34 rfl rfl ?_
  refine Ev.callO (pc := 35) (n := (0, 0)) (i := 0) (s_ord (by decide)) dX5_carryOut_35 (by decide) (zgw_in (List.mem_of_getElem? (i := 438) (by decide +kernel)) rfl) ⟨(Nat.le_of_ble_eq_true rfl), (Nat.le_of_ble_eq_true rfl)⟩ (Nat.le_of_ble_eq_true rfl) ⟨(Nat.le_of_ble_eq_true rfl), (Nat.le_of_ble_eq_true rfl)⟩ ?_
  refine Ev.iaW (pc := 38) (n := (0, 0)) (x := 1) dX5_carryOut_38 (by decide) (by decide) rfl ?_
  refine Ev.tableIn (pc := 39) (n := (0, 0)) (off := 41) (tgt := 80) dX5_carryOut_39 (by omega) (by omega) (by rfl) rfl ?_
  refine Ev.aload_n (pc := 80) (n := (0, 0)) (i := 0) dX5_carryOut_80 rfl rfl ?_
  refine Ev.aload (pc := 81) (n := (0, 0)) dX5_carryOut_81 rfl ?_
  refine Ev.iload_n (pc := 83) (n := (0, 0)) (i := 3) dX5_carryOut_83 rfl rfl ?_
  refine Ev.iconst (pc := 84) (n := (0, 0)) dX5_carryOut_84 ?_
  refine Ev.iconst (pc := 85) (n := (0, 0)) dX5_carryOut_85 ?_
  refine Ev.callV (pc := 86) (n := (0, 0)) (ob := T) (as := [zr (some (ar j)), zi b, zi 0, zi 0]) (st := []) (k2) dX5_carryOut_86 ok_X5_addNode (lk_X5_166 rfl) ⟨(Nat.le_of_ble_eq_true rfl), (Nat.le_of_ble_eq_true rfl)⟩ hC.1.1.1 ⟨by decide, rfl⟩ rfl (Nat.le_of_ble_eq_true rfl) (Nat.le_of_ble_eq_true rfl) ⟨(Nat.le_of_ble_eq_true rfl), (Nat.le_of_ble_eq_true rfl)⟩ ?_
  exact Ev.iret dX5_carryOut_89 rfl ⟨(Nat.le_of_ble_eq_true rfl), (Nat.le_of_ble_eq_true rfl)⟩
theorem s_carryOut1 {h : zH} {T n : Nat} {F : zF} {ad dl : Int} {ar q : Nat → Nat} (hC : CT h T n F ad dl ar q) {len st sl dp : Int → Int} (hl : IsLen n F len) (ht : IsTm n F len st sl dp) (hP : PLN h n F len st sl dp ar q) {q0 : Nat} (hG : Gd q0 n F ad dl) (hq0 : q0 ≤ 80000) {a b c : Int} (hw9 : IsWhy n F 2 a b c 0) {n2 : Nat} {F2 : zF} {ad2 dl2 ans : Int} (hc9 : IsChg n F ad dl 2 a b c n2 F2 ad2 dl2 ans) : ∃ (I3 : Nat → Int → Int) (R3 : Nat → Int → Option Nat), (TS (h.1, I3, R3) T n2 F2 ad2 dl2 ∧ ∀ o, (o < T ∨ T + 51 ≤ o) → I3 o = h.2.1 o ∧ R3 o = h.2.2 o) ∧ Ev M_X5_carryOut 0 [(0, zr (some T)), (1, zr (some (4096 + 1))), (2, zi a), (3, zi b), (4, zi c)] [] h (0, 0) (.inl (some (zi ans)), (h.1, I3, R3)) := by
  have hG2 := hG.step hw9 hc9
  obtain ⟨⟨dep, hw⟩, hN, hA, hD⟩ := hG
  obtain ⟨⟨dep2, hw2⟩, -, -, -⟩ := hG2
  have hB : 24 * (60 + 99 * (q0 : Int)) ≤ 1000000000 := by omega
  have hB2 : 24 * (60 + 99 * ((q0 + 1 : Nat) : Int)) ≤ 1000000000 := by omega
  have hk := hc9.k2
  obtain ⟨rfl, rfl, rfl, rfl, rfl⟩ := hk
  obtain ⟨k, hzk, hkn, hk0, hr, hd, hp1, hn24⟩ := wAdd_pos (hw9.k2).symm
  obtain ⟨len2, st2, sl2, dp2, hl2, ht2⟩ := plan_ex hw2
  obtain ⟨j, hj, ej, k1⟩ := s_find_some hC hw hzk
  subst ej
  subst hk0
  have hn := hC.n24
  have hr9 : (1 : Int) ≤ ans ∧ ans ≤ 80001 := by omega
  obtain ⟨I3, R3, ⟨hC3, hP3, hfr⟩, k2⟩ := s_addNode hC (by omega) (by omega) hj (Or.inr rfl) hw2 hB2 hl2 ht2
  refine ⟨I3, R3, ⟨⟨_, _, len2, st2, sl2, dp2, hC3, hl2, ht2, hP3⟩, hfr⟩, ?_⟩
  refine Ev.aload_n (pc := 0) (n := (0, 0)) (i := 1) dX5_carryOut_0 rfl rfl ?_
  refine Ev.gsC (pc := 1) (n := (0, 0)) (i := 7) dX5_carryOut_1 (by decide) (zgw_in (List.mem_of_getElem? (i := 418) (by decide +kernel)) rfl) ?_
  refine Ev.acmp_ne (pc := 4) (n := (0, 0)) (tgt := 17) dX5_carryOut_4 rfl (Or.inr (Or.inl ⟨1, 7, by decide, by decide, rfl, rfl⟩)) (fun hc => ?_) (fun hc => absurd hc (by decide))
  refine Ev.aload_n (pc := 17) (n := (0, 0)) (i := 0) dX5_carryOut_17 rfl rfl ?_
  refine Ev.iload_n (pc := 18) (n := (0, 0)) (i := 2) dX5_carryOut_18 rfl rfl ?_
  refine Ev.callV (pc := 19) (n := (0, 0)) (ob := T) (as := [zi (F (q j) 0)]) (st := []) (k1) dX5_carryOut_19 ok_X5_find (lk_X5_126 rfl) ⟨(Nat.le_of_ble_eq_true rfl), (Nat.le_of_ble_eq_true rfl)⟩ hC.1.1.1 ⟨by decide, rfl⟩ rfl (Nat.le_of_ble_eq_true rfl) (Nat.le_of_ble_eq_true rfl) ⟨(Nat.le_of_ble_eq_true rfl), (Nat.le_of_ble_eq_true rfl)⟩ ?_
  refine Ev.astore (pc := 22) (n := (0, 0)) (i := 5) (L' := [(5, zr (some (ar j))), (0, zr (some T)), (1, zr (some (4096 + 1))), (2, zi (F (q j) 0)), (3, zi b), (4, zi c)]) dX5_carryOut_22 (Nat.le_of_ble_eq_true rfl) rfl ?_
  refine Ev.aload (pc := 24) (n := (0, 0)) dX5_carryOut_24 rfl ?_
  refine Ev.ifnonnull (pc := 26) (n := (0, 0)) (tgt := 31) dX5_carryOut_26 rfl (fun x9 hc => ?_) (fun hc => nomatch hc)
  refine Ev.gsW (pc := 31) (n := (0, 0)) dX5_carryOut_31 (zgw_in (List.mem_of_getElem? (i := 436) (by decide +kernel)) rfl) ?_
  refine Ev.aload_n (pc := 34) (n := (0, 0)) (i := 1) dX5_carryOut_34 rfl rfl ?_
  refine Ev.callO (pc := 35) (n := (0, 0)) (i := 1) (s_ord (by decide)) dX5_carryOut_35 (by decide) (zgw_in (List.mem_of_getElem? (i := 438) (by decide +kernel)) rfl) ⟨(Nat.le_of_ble_eq_true rfl), (Nat.le_of_ble_eq_true rfl)⟩ (Nat.le_of_ble_eq_true rfl) ⟨(Nat.le_of_ble_eq_true rfl), (Nat.le_of_ble_eq_true rfl)⟩ ?_
  refine Ev.iaW (pc := 38) (n := (0, 0)) (x := 2) dX5_carryOut_38 (by decide) (by decide) rfl ?_
  refine Ev.tableIn (pc := 39) (n := (0, 0)) (off := 51) (tgt := 90) dX5_carryOut_39 (by omega) (by omega) (by rfl) rfl ?_
  refine Ev.aload_n (pc := 90) (n := (0, 0)) (i := 0) dX5_carryOut_90 rfl rfl ?_
  refine Ev.aload (pc := 91) (n := (0, 0)) dX5_carryOut_91 rfl ?_
  refine Ev.iload_n (pc := 93) (n := (0, 0)) (i := 3) dX5_carryOut_93 rfl rfl ?_
  refine Ev.iconst (pc := 94) (n := (0, 0)) dX5_carryOut_94 ?_
  refine Ev.iload (pc := 95) (n := (0, 0)) dX5_carryOut_95 rfl ?_
  refine Ev.callV (pc := 97) (n := (0, 0)) (ob := T) (as := [zr (some (ar j)), zi b, zi 1, zi c]) (st := []) (k2) dX5_carryOut_97 ok_X5_addNode (lk_X5_166 rfl) ⟨(Nat.le_of_ble_eq_true rfl), (Nat.le_of_ble_eq_true rfl)⟩ hC.1.1.1 ⟨by decide, rfl⟩ rfl (Nat.le_of_ble_eq_true rfl) (Nat.le_of_ble_eq_true rfl) ⟨(Nat.le_of_ble_eq_true rfl), (Nat.le_of_ble_eq_true rfl)⟩ ?_
  exact Ev.iret dX5_carryOut_100 rfl ⟨(Nat.le_of_ble_eq_true rfl), (Nat.le_of_ble_eq_true rfl)⟩
theorem s_carryOut2 {h : zH} {T n : Nat} {F : zF} {ad dl : Int} {ar q : Nat → Nat} (hC : CT h T n F ad dl ar q) {len st sl dp : Int → Int} (hl : IsLen n F len) (ht : IsTm n F len st sl dp) (hP : PLN h n F len st sl dp ar q) {q0 : Nat} (hG : Gd q0 n F ad dl) (hq0 : q0 ≤ 80000) {a b c : Int} (hw9 : IsWhy n F 3 a b c 0) {n2 : Nat} {F2 : zF} {ad2 dl2 ans : Int} (hc9 : IsChg n F ad dl 3 a b c n2 F2 ad2 dl2 ans) : ∃ (I3 : Nat → Int → Int) (R3 : Nat → Int → Option Nat), (TS (h.1, I3, R3) T n2 F2 ad2 dl2 ∧ ∀ o, (o < T ∨ T + 51 ≤ o) → I3 o = h.2.1 o ∧ R3 o = h.2.2 o) ∧ Ev M_X5_carryOut 0 [(0, zr (some T)), (1, zr (some (4096 + 2))), (2, zi a), (3, zi b), (4, zi c)] [] h (0, 0) (.inl (some (zi ans)), (h.1, I3, R3)) := by
  have hG2 := hG.step hw9 hc9
  obtain ⟨⟨dep, hw⟩, hN, hA, hD⟩ := hG
  obtain ⟨⟨dep2, hw2⟩, -, -, -⟩ := hG2
  have hB : 24 * (60 + 99 * (q0 : Int)) ≤ 1000000000 := by omega
  have hB2 : 24 * (60 + 99 * ((q0 + 1 : Nat) : Int)) ≤ 1000000000 := by omega
  have hk := hc9.k3
  obtain ⟨rfl, rfl, rfl, k, hzk, rfl, len2, st2, sl2, dp2, hl2, ht2, rfl⟩ := hk
  obtain ⟨k', hkn, hzk', hkt, hr⟩ := wTask_pos (hw9.k3).symm
  have : k' = k := by omega
  subst this
  have hd : 0 ≤ b ∧ b ≤ 60 := Classical.byContradiction fun g => hr (if_neg g)
  have b9 := hw.2.2.2.1 k' hkn
  obtain ⟨j, hj, ej, k1⟩ := s_find_some hC hw hzk
  subst ej
  obtain ⟨I3, R3, ⟨hC3, hP3, hfr⟩, k2⟩ := s_changeDuration hC hj hd ⟨b9.2.1, by have := b9.2.2.1; omega⟩ hw2 hB2 hl2 ht2
  refine ⟨I3, R3, ⟨⟨_, _, len2, st2, sl2, dp2, hC3, hl2, ht2, hP3⟩, hfr⟩, ?_⟩
  refine Ev.aload_n (pc := 0) (n := (0, 0)) (i := 1) dX5_carryOut_0 rfl rfl ?_
  refine Ev.gsC (pc := 1) (n := (0, 0)) (i := 7) dX5_carryOut_1 (by decide) (zgw_in (List.mem_of_getElem? (i := 418) (by decide +kernel)) rfl) ?_
  refine Ev.acmp_ne (pc := 4) (n := (0, 0)) (tgt := 17) dX5_carryOut_4 rfl (Or.inr (Or.inl ⟨2, 7, by decide, by decide, rfl, rfl⟩)) (fun hc => ?_) (fun hc => absurd hc (by decide))
  refine Ev.aload_n (pc := 17) (n := (0, 0)) (i := 0) dX5_carryOut_17 rfl rfl ?_
  refine Ev.iload_n (pc := 18) (n := (0, 0)) (i := 2) dX5_carryOut_18 rfl rfl ?_
  refine Ev.callV (pc := 19) (n := (0, 0)) (ob := T) (as := [zi a]) (st := []) (k1) dX5_carryOut_19 ok_X5_find (lk_X5_126 rfl) ⟨(Nat.le_of_ble_eq_true rfl), (Nat.le_of_ble_eq_true rfl)⟩ hC.1.1.1 ⟨by decide, rfl⟩ rfl (Nat.le_of_ble_eq_true rfl) (Nat.le_of_ble_eq_true rfl) ⟨(Nat.le_of_ble_eq_true rfl), (Nat.le_of_ble_eq_true rfl)⟩ ?_
  refine Ev.astore (pc := 22) (n := (0, 0)) (i := 5) (L' := [(5, zr (some (ar j))), (0, zr (some T)), (1, zr (some (4096 + 2))), (2, zi a), (3, zi b), (4, zi c)]) dX5_carryOut_22 (Nat.le_of_ble_eq_true rfl) rfl ?_
  refine Ev.aload (pc := 24) (n := (0, 0)) dX5_carryOut_24 rfl ?_
  refine Ev.ifnonnull (pc := 26) (n := (0, 0)) (tgt := 31) dX5_carryOut_26 rfl (fun x9 hc => ?_) (fun hc => nomatch hc)
  refine Ev.gsW (pc := 31) (n := (0, 0)) dX5_carryOut_31 (zgw_in (List.mem_of_getElem? (i := 436) (by decide +kernel)) rfl) ?_
  refine Ev.aload_n (pc := 34) (n := (0, 0)) (i := 1) dX5_carryOut_34 rfl rfl ?_
  refine Ev.callO (pc := 35) (n := (0, 0)) (i := 2) (s_ord (by decide)) dX5_carryOut_35 (by decide) (zgw_in (List.mem_of_getElem? (i := 438) (by decide +kernel)) rfl) ⟨(Nat.le_of_ble_eq_true rfl), (Nat.le_of_ble_eq_true rfl)⟩ (Nat.le_of_ble_eq_true rfl) ⟨(Nat.le_of_ble_eq_true rfl), (Nat.le_of_ble_eq_true rfl)⟩ ?_
  refine Ev.iaW (pc := 38) (n := (0, 0)) (x := 4) dX5_carryOut_38 (by decide) (by decide) rfl ?_
  refine Ev.tableIn (pc := 39) (n := (0, 0)) (off := 79) (tgt := 118) dX5_carryOut_39 (by omega) (by omega) (by rfl) rfl ?_
  refine Ev.aload_n (pc := 118) (n := (0, 0)) (i := 0) dX5_carryOut_118 rfl rfl ?_
  refine Ev.aload (pc := 119) (n := (0, 0)) dX5_carryOut_119 rfl ?_
  refine Ev.iload_n (pc := 121) (n := (0, 0)) (i := 3) dX5_carryOut_121 rfl rfl ?_
  refine Ev.callV (pc := 122) (n := (0, 0)) (ob := T) (as := [zr (some (ar j)), zi b]) (st := []) (k2) dX5_carryOut_122 ok_X5_changeDuration (lk_X5_177 rfl) ⟨(Nat.le_of_ble_eq_true rfl), (Nat.le_of_ble_eq_true rfl)⟩ hC.1.1.1 ⟨by decide, rfl⟩ rfl (Nat.le_of_ble_eq_true rfl) (Nat.le_of_ble_eq_true rfl) ⟨(Nat.le_of_ble_eq_true rfl), (Nat.le_of_ble_eq_true rfl)⟩ ?_
  exact Ev.iret dX5_carryOut_125 rfl ⟨(Nat.le_of_ble_eq_true rfl), (Nat.le_of_ble_eq_true rfl)⟩
theorem s_carryOut3 {h : zH} {T n : Nat} {F : zF} {ad dl : Int} {ar q : Nat → Nat} (hC : CT h T n F ad dl ar q) {len st sl dp : Int → Int} (hl : IsLen n F len) (ht : IsTm n F len st sl dp) (hP : PLN h n F len st sl dp ar q) {q0 : Nat} (hG : Gd q0 n F ad dl) (hq0 : q0 ≤ 80000) {a b c : Int} (hw9 : IsWhy n F 4 a b c 0) {n2 : Nat} {F2 : zF} {ad2 dl2 ans : Int} (hc9 : IsChg n F ad dl 4 a b c n2 F2 ad2 dl2 ans) : ∃ (I3 : Nat → Int → Int) (R3 : Nat → Int → Option Nat), (TS (h.1, I3, R3) T n2 F2 ad2 dl2 ∧ ∀ o, (o < T ∨ T + 51 ≤ o) → I3 o = h.2.1 o ∧ R3 o = h.2.2 o) ∧ Ev M_X5_carryOut 0 [(0, zr (some T)), (1, zr (some (4096 + 3))), (2, zi a), (3, zi b), (4, zi c)] [] h (0, 0) (.inl (some (zi ans)), (h.1, I3, R3)) := by
  have hG2 := hG.step hw9 hc9
  obtain ⟨⟨dep, hw⟩, hN, hA, hD⟩ := hG
  obtain ⟨⟨dep2, hw2⟩, -, -, -⟩ := hG2
  have hB : 24 * (60 + 99 * (q0 : Int)) ≤ 1000000000 := by omega
  have hB2 : 24 * (60 + 99 * ((q0 + 1 : Nat) : Int)) ≤ 1000000000 := by omega
  have hk := hc9.k4
  obtain ⟨rfl, rfl, rfl, k, hzk, rfl, rfl⟩ := hk
  obtain ⟨k', hkn, hzk', hkt, hr, hs⟩ := wBor_pos (hw9.k4 len st sl dp hl ht).symm
  have : k' = k := by omega
  subst this
  have b9 := hw.2.2.2.1 k' hkn
  obtain ⟨len2, st2, sl2, dp2, hl2, ht2⟩ := plan_ex hw2
  obtain ⟨j, hj, ej, k1⟩ := s_find_some hC hw hzk
  subst ej
  obtain ⟨I3, R3, ⟨hC3, hP3, hfr⟩, k2⟩ := s_changeReserve hC hj (b := b) (by have := b9.2.2.1; omega) hw2 hB2 hl2 ht2
  refine ⟨I3, R3, ⟨⟨_, _, len2, st2, sl2, dp2, hC3, hl2, ht2, hP3⟩, hfr⟩, ?_⟩
  refine Ev.aload_n (pc := 0) (n := (0, 0)) (i := 1) dX5_carryOut_0 rfl rfl ?_
  refine Ev.gsC (pc := 1) (n := (0, 0)) (i := 7) dX5_carryOut_1 (by decide) (zgw_in (List.mem_of_getElem? (i := 418) (by decide +kernel)) rfl) ?_
  refine Ev.acmp_ne (pc := 4) (n := (0, 0)) (tgt := 17) dX5_carryOut_4 rfl (Or.inr (Or.inl ⟨3, 7, by decide, by decide, rfl, rfl⟩)) (fun hc => ?_) (fun hc => absurd hc (by decide))
  refine Ev.aload_n (pc := 17) (n := (0, 0)) (i := 0) dX5_carryOut_17 rfl rfl ?_
  refine Ev.iload_n (pc := 18) (n := (0, 0)) (i := 2) dX5_carryOut_18 rfl rfl ?_
  refine Ev.callV (pc := 19) (n := (0, 0)) (ob := T) (as := [zi a]) (st := []) (k1) dX5_carryOut_19 ok_X5_find (lk_X5_126 rfl) ⟨(Nat.le_of_ble_eq_true rfl), (Nat.le_of_ble_eq_true rfl)⟩ hC.1.1.1 ⟨by decide, rfl⟩ rfl (Nat.le_of_ble_eq_true rfl) (Nat.le_of_ble_eq_true rfl) ⟨(Nat.le_of_ble_eq_true rfl), (Nat.le_of_ble_eq_true rfl)⟩ ?_
  refine Ev.astore (pc := 22) (n := (0, 0)) (i := 5) (L' := [(5, zr (some (ar j))), (0, zr (some T)), (1, zr (some (4096 + 3))), (2, zi a), (3, zi b), (4, zi c)]) dX5_carryOut_22 (Nat.le_of_ble_eq_true rfl) rfl ?_
  refine Ev.aload (pc := 24) (n := (0, 0)) dX5_carryOut_24 rfl ?_
  refine Ev.ifnonnull (pc := 26) (n := (0, 0)) (tgt := 31) dX5_carryOut_26 rfl (fun x9 hc => ?_) (fun hc => nomatch hc)
  refine Ev.gsW (pc := 31) (n := (0, 0)) dX5_carryOut_31 (zgw_in (List.mem_of_getElem? (i := 436) (by decide +kernel)) rfl) ?_
  refine Ev.aload_n (pc := 34) (n := (0, 0)) (i := 1) dX5_carryOut_34 rfl rfl ?_
  refine Ev.callO (pc := 35) (n := (0, 0)) (i := 3) (s_ord (by decide)) dX5_carryOut_35 (by decide) (zgw_in (List.mem_of_getElem? (i := 438) (by decide +kernel)) rfl) ⟨(Nat.le_of_ble_eq_true rfl), (Nat.le_of_ble_eq_true rfl)⟩ (Nat.le_of_ble_eq_true rfl) ⟨(Nat.le_of_ble_eq_true rfl), (Nat.le_of_ble_eq_true rfl)⟩ ?_
  refine Ev.iaW (pc := 38) (n := (0, 0)) (x := 5) dX5_carryOut_38 (by decide) (by decide) rfl ?_
  refine Ev.tableIn (pc := 39) (n := (0, 0)) (off := 87) (tgt := 126) dX5_carryOut_39 (by omega) (by omega) (by rfl) rfl ?_
  refine Ev.aload_n (pc := 126) (n := (0, 0)) (i := 0) dX5_carryOut_126 rfl rfl ?_
  refine Ev.aload (pc := 127) (n := (0, 0)) dX5_carryOut_127 rfl ?_
  refine Ev.iload_n (pc := 129) (n := (0, 0)) (i := 3) dX5_carryOut_129 rfl rfl ?_
  refine Ev.callV (pc := 130) (n := (0, 0)) (ob := T) (as := [zr (some (ar j)), zi b]) (st := []) (k2) dX5_carryOut_130 ok_X5_changeReserve (lk_X5_181 rfl) ⟨(Nat.le_of_ble_eq_true rfl), (Nat.le_of_ble_eq_true rfl)⟩ hC.1.1.1 ⟨by decide, rfl⟩ rfl (Nat.le_of_ble_eq_true rfl) (Nat.le_of_ble_eq_true rfl) ⟨(Nat.le_of_ble_eq_true rfl), (Nat.le_of_ble_eq_true rfl)⟩ ?_
  exact Ev.iret dX5_carryOut_133 rfl ⟨(Nat.le_of_ble_eq_true rfl), (Nat.le_of_ble_eq_true rfl)⟩
theorem s_carryOut4 {h : zH} {T n : Nat} {F : zF} {ad dl : Int} {ar q : Nat → Nat} (hC : CT h T n F ad dl ar q) {len st sl dp : Int → Int} (hl : IsLen n F len) (ht : IsTm n F len st sl dp) (hP : PLN h n F len st sl dp ar q) {q0 : Nat} (hG : Gd q0 n F ad dl) (hq0 : q0 ≤ 80000) {a b c : Int} (hw9 : IsWhy n F 5 a b c 0) {n2 : Nat} {F2 : zF} {ad2 dl2 ans : Int} (hc9 : IsChg n F ad dl 5 a b c n2 F2 ad2 dl2 ans) : ∃ (I3 : Nat → Int → Int) (R3 : Nat → Int → Option Nat), (TS (h.1, I3, R3) T n2 F2 ad2 dl2 ∧ ∀ o, (o < T ∨ T + 51 ≤ o) → I3 o = h.2.1 o ∧ R3 o = h.2.2 o) ∧ Ev M_X5_carryOut 0 [(0, zr (some T)), (1, zr (some (4096 + 4))), (2, zi a), (3, zi b), (4, zi c)] [] h (0, 0) (.inl (some (zi ans)), (h.1, I3, R3)) := by
  have hG2 := hG.step hw9 hc9
  obtain ⟨⟨dep, hw⟩, hN, hA, hD⟩ := hG
  obtain ⟨⟨dep2, hw2⟩, -, -, -⟩ := hG2
  have hB : 24 * (60 + 99 * (q0 : Int)) ≤ 1000000000 := by omega
  have hB2 : 24 * (60 + 99 * ((q0 + 1 : Nat) : Int)) ≤ 1000000000 := by omega
  have hk := hc9.k5
  obtain ⟨rfl, rfl, rfl, k, hzk, rfl, rfl⟩ := hk
  obtain ⟨k', hkn, hzk', hkt, hr, hs⟩ := wBck_pos (hw9.k5).symm
  have : k' = k := by omega
  subst this
  have b9 := hw.2.2.2.1 k' hkn
  obtain ⟨len2, st2, sl2, dp2, hl2, ht2⟩ := plan_ex hw2
  obtain ⟨j, hj, ej, k1⟩ := s_find_some hC hw hzk
  subst ej
  obtain ⟨I3, R3, ⟨hC3, hP3, hfr⟩, k2⟩ := s_changeReserve hC hj (b := -b) (by have := b9.2.2.1; omega) hw2 hB2 hl2 ht2
  refine ⟨I3, R3, ⟨⟨_, _, len2, st2, sl2, dp2, hC3, hl2, ht2, hP3⟩, hfr⟩, ?_⟩
  refine Ev.aload_n (pc := 0) (n := (0, 0)) (i := 1) dX5_carryOut_0 rfl rfl ?_
  refine Ev.gsC (pc := 1) (n := (0, 0)) (i := 7) dX5_carryOut_1 (by decide) (zgw_in (List.mem_of_getElem? (i := 418) (by decide +kernel)) rfl) ?_
  refine Ev.acmp_ne (pc := 4) (n := (0, 0)) (tgt := 17) dX5_carryOut_4 rfl (Or.inr (Or.inl ⟨4, 7, by decide, by decide, rfl, rfl⟩)) (fun hc => ?_) (fun hc => absurd hc (by decide))
  refine Ev.aload_n (pc := 17) (n := (0, 0)) (i := 0) dX5_carryOut_17 rfl rfl ?_
  refine Ev.iload_n (pc := 18) (n := (0, 0)) (i := 2) dX5_carryOut_18 rfl rfl ?_
  refine Ev.callV (pc := 19) (n := (0, 0)) (ob := T) (as := [zi a]) (st := []) (k1) dX5_carryOut_19 ok_X5_find (lk_X5_126 rfl) ⟨(Nat.le_of_ble_eq_true rfl), (Nat.le_of_ble_eq_true rfl)⟩ hC.1.1.1 ⟨by decide, rfl⟩ rfl (Nat.le_of_ble_eq_true rfl) (Nat.le_of_ble_eq_true rfl) ⟨(Nat.le_of_ble_eq_true rfl), (Nat.le_of_ble_eq_true rfl)⟩ ?_
  refine Ev.astore (pc := 22) (n := (0, 0)) (i := 5) (L' := [(5, zr (some (ar j))), (0, zr (some T)), (1, zr (some (4096 + 4))), (2, zi a), (3, zi b), (4, zi c)]) dX5_carryOut_22 (Nat.le_of_ble_eq_true rfl) rfl ?_
  refine Ev.aload (pc := 24) (n := (0, 0)) dX5_carryOut_24 rfl ?_
  refine Ev.ifnonnull (pc := 26) (n := (0, 0)) (tgt := 31) dX5_carryOut_26 rfl (fun x9 hc => ?_) (fun hc => nomatch hc)
  refine Ev.gsW (pc := 31) (n := (0, 0)) dX5_carryOut_31 (zgw_in (List.mem_of_getElem? (i := 436) (by decide +kernel)) rfl) ?_
  refine Ev.aload_n (pc := 34) (n := (0, 0)) (i := 1) dX5_carryOut_34 rfl rfl ?_
  refine Ev.callO (pc := 35) (n := (0, 0)) (i := 4) (s_ord (by decide)) dX5_carryOut_35 (by decide) (zgw_in (List.mem_of_getElem? (i := 438) (by decide +kernel)) rfl) ⟨(Nat.le_of_ble_eq_true rfl), (Nat.le_of_ble_eq_true rfl)⟩ (Nat.le_of_ble_eq_true rfl) ⟨(Nat.le_of_ble_eq_true rfl), (Nat.le_of_ble_eq_true rfl)⟩ ?_
  refine Ev.iaW (pc := 38) (n := (0, 0)) (x := 6) dX5_carryOut_38 (by decide) (by decide) rfl ?_
  refine Ev.tableIn (pc := 39) (n := (0, 0)) (off := 95) (tgt := 134) dX5_carryOut_39 (by omega) (by omega) (by rfl) rfl ?_
  refine Ev.aload_n (pc := 134) (n := (0, 0)) (i := 0) dX5_carryOut_134 rfl rfl ?_
  refine Ev.aload (pc := 135) (n := (0, 0)) dX5_carryOut_135 rfl ?_
  refine Ev.iload_n (pc := 137) (n := (0, 0)) (i := 3) dX5_carryOut_137 rfl rfl ?_
  refine Ev.ineg (pc := 138) (n := (0, 0)) dX5_carryOut_138 ⟨by omega, by omega⟩ ?_
  refine Ev.callV (pc := 139) (n := (0, 0)) (ob := T) (as := [zr (some (ar j)), zi (-b)]) (st := []) (k2) dX5_carryOut_139 ok_X5_changeReserve (lk_X5_181 rfl) ⟨(Nat.le_of_ble_eq_true rfl), (Nat.le_of_ble_eq_true rfl)⟩ hC.1.1.1 ⟨by decide, rfl⟩ rfl (Nat.le_of_ble_eq_true rfl) (Nat.le_of_ble_eq_true rfl) ⟨(Nat.le_of_ble_eq_true rfl), (Nat.le_of_ble_eq_true rfl)⟩ ?_
  exact Ev.iret dX5_carryOut_142 rfl ⟨(Nat.le_of_ble_eq_true rfl), (Nat.le_of_ble_eq_true rfl)⟩
theorem s_carryOut5 {h : zH} {T n : Nat} {F : zF} {ad dl : Int} {ar q : Nat → Nat} (hC : CT h T n F ad dl ar q) {len st sl dp : Int → Int} (hl : IsLen n F len) (ht : IsTm n F len st sl dp) (hP : PLN h n F len st sl dp ar q) {q0 : Nat} (hG : Gd q0 n F ad dl) (hq0 : q0 ≤ 80000) {a b c : Int} (hw9 : IsWhy n F 6 a b c 0) {n2 : Nat} {F2 : zF} {ad2 dl2 ans : Int} (hc9 : IsChg n F ad dl 6 a b c n2 F2 ad2 dl2 ans) : ∃ (I3 : Nat → Int → Int) (R3 : Nat → Int → Option Nat), (TS (h.1, I3, R3) T n2 F2 ad2 dl2 ∧ ∀ o, (o < T ∨ T + 51 ≤ o) → I3 o = h.2.1 o ∧ R3 o = h.2.2 o) ∧ Ev M_X5_carryOut 0 [(0, zr (some T)), (1, zr (some (4096 + 5))), (2, zi a), (3, zi b), (4, zi c)] [] h (0, 0) (.inl (some (zi ans)), (h.1, I3, R3)) := by
  have hG2 := hG.step hw9 hc9
  obtain ⟨⟨dep, hw⟩, hN, hA, hD⟩ := hG
  obtain ⟨⟨dep2, hw2⟩, -, -, -⟩ := hG2
  have hB : 24 * (60 + 99 * (q0 : Int)) ≤ 1000000000 := by omega
  have hB2 : 24 * (60 + 99 * ((q0 + 1 : Nat) : Int)) ≤ 1000000000 := by omega
  have hk := hc9.k6
  obtain ⟨rfl, rfl, rfl, k, hzk, rfl, rfl⟩ := hk
  obtain ⟨k', p, ⟨hzk', hkn, hk0, hx0⟩, ⟨hzp, hpn, hp0⟩, hr, hp1, hnb⟩ := IsWMove_pos hw9.k6
  have : k' = k := by omega
  subst this
  have hb0 := hw.nn hpn
  obtain ⟨len2, st2, sl2, dp2, hl2, ht2⟩ := plan_ex hw2
  obtain ⟨j, hj, ej, k1⟩ := s_find_some hC hw hzk
  subst ej
  have hj1 : 1 ≤ j := by
    by_cases e : j = 0
    · subst e
      rw [hC.q0] at hk0
      exact absurd (hk0.symm.trans hw.2.1.1) hx0
    · omega
  obtain ⟨I3, R3, ⟨hC3, hP3, hfr⟩, k2⟩ := s_putLast hC hj1 hj (g := b) (r := c) (by omega) hw2 hB2 hl2 ht2
  refine ⟨I3, R3, ⟨⟨_, _, len2, st2, sl2, dp2, hC3, hl2, ht2, hP3⟩, hfr⟩, ?_⟩
  refine Ev.aload_n (pc := 0) (n := (0, 0)) (i := 1) dX5_carryOut_0 rfl rfl ?_
  refine Ev.gsC (pc := 1) (n := (0, 0)) (i := 7) dX5_carryOut_1 (by decide) (zgw_in (List.mem_of_getElem? (i := 418) (by decide +kernel)) rfl) ?_
  refine Ev.acmp_ne (pc := 4) (n := (0, 0)) (tgt := 17) dX5_carryOut_4 rfl (Or.inr (Or.inl ⟨5, 7, by decide, by decide, rfl, rfl⟩)) (fun hc => ?_) (fun hc => absurd hc (by decide))
  refine Ev.aload_n (pc := 17) (n := (0, 0)) (i := 0) dX5_carryOut_17 rfl rfl ?_
  refine Ev.iload_n (pc := 18) (n := (0, 0)) (i := 2) dX5_carryOut_18 rfl rfl ?_
  refine Ev.callV (pc := 19) (n := (0, 0)) (ob := T) (as := [zi a]) (st := []) (k1) dX5_carryOut_19 ok_X5_find (lk_X5_126 rfl) ⟨(Nat.le_of_ble_eq_true rfl), (Nat.le_of_ble_eq_true rfl)⟩ hC.1.1.1 ⟨by decide, rfl⟩ rfl (Nat.le_of_ble_eq_true rfl) (Nat.le_of_ble_eq_true rfl) ⟨(Nat.le_of_ble_eq_true rfl), (Nat.le_of_ble_eq_true rfl)⟩ ?_
  refine Ev.astore (pc := 22) (n := (0, 0)) (i := 5) (L' := [(5, zr (some (ar j))), (0, zr (some T)), (1, zr (some (4096 + 5))), (2, zi a), (3, zi b), (4, zi c)]) dX5_carryOut_22 (Nat.le_of_ble_eq_true rfl) rfl ?_
  refine Ev.aload (pc := 24) (n := (0, 0)) dX5_carryOut_24 rfl ?_
  refine Ev.ifnonnull (pc := 26) (n := (0, 0)) (tgt := 31) dX5_carryOut_26 rfl (fun x9 hc => ?_) (fun hc => nomatch hc)
  refine Ev.gsW (pc := 31) (n := (0, 0)) dX5_carryOut_31 (zgw_in (List.mem_of_getElem? (i := 436) (by decide +kernel)) rfl) ?_
  refine Ev.aload_n (pc := 34) (n := (0, 0)) (i := 1) dX5_carryOut_34 rfl rfl ?_
  refine Ev.callO (pc := 35) (n := (0, 0)) (i := 5) (s_ord (by decide)) dX5_carryOut_35 (by decide) (zgw_in (List.mem_of_getElem? (i := 438) (by decide +kernel)) rfl) ⟨(Nat.le_of_ble_eq_true rfl), (Nat.le_of_ble_eq_true rfl)⟩ (Nat.le_of_ble_eq_true rfl) ⟨(Nat.le_of_ble_eq_true rfl), (Nat.le_of_ble_eq_true rfl)⟩ ?_
  refine Ev.iaW (pc := 38) (n := (0, 0)) (x := 3) dX5_carryOut_38 (by decide) (by decide) rfl ?_
  refine Ev.tableIn (pc := 39) (n := (0, 0)) (off := 62) (tgt := 101) dX5_carryOut_39 (by omega) (by omega) (by rfl) rfl ?_
  refine Ev.aload_n (pc := 101) (n := (0, 0)) (i := 0) dX5_carryOut_101 rfl rfl ?_
  refine Ev.aload (pc := 102) (n := (0, 0)) dX5_carryOut_102 rfl ?_
  refine Ev.iload_n (pc := 104) (n := (0, 0)) (i := 3) dX5_carryOut_104 rfl rfl ?_
  refine Ev.iload (pc := 105) (n := (0, 0)) dX5_carryOut_105 rfl ?_
  refine Ev.callV (pc := 107) (n := (0, 0)) (ob := T) (as := [zr (some (ar j)), zi b, zi c]) (st := []) (k2) dX5_carryOut_107 ok_X5_putLast (lk_X5_170 rfl) ⟨(Nat.le_of_ble_eq_true rfl), (Nat.le_of_ble_eq_true rfl)⟩ hC.1.1.1 ⟨by decide, rfl⟩ rfl (Nat.le_of_ble_eq_true rfl) (Nat.le_of_ble_eq_true rfl) ⟨(Nat.le_of_ble_eq_true rfl), (Nat.le_of_ble_eq_true rfl)⟩ ?_
  exact Ev.iret dX5_carryOut_110 rfl ⟨(Nat.le_of_ble_eq_true rfl), (Nat.le_of_ble_eq_true rfl)⟩
theorem s_carryOut6 {h : zH} {T n : Nat} {F : zF} {ad dl : Int} {ar q : Nat → Nat} (hC : CT h T n F ad dl ar q) {len st sl dp : Int → Int} (hl : IsLen n F len) (ht : IsTm n F len st sl dp) (hP : PLN h n F len st sl dp ar q) {q0 : Nat} (hG : Gd q0 n F ad dl) (hq0 : q0 ≤ 80000) {a b c : Int} (hw9 : IsWhy n F 7 a b c 0) {n2 : Nat} {F2 : zF} {ad2 dl2 ans : Int} (hc9 : IsChg n F ad dl 7 a b c n2 F2 ad2 dl2 ans) : ∃ (I3 : Nat → Int → Int) (R3 : Nat → Int → Option Nat), (TS (h.1, I3, R3) T n2 F2 ad2 dl2 ∧ ∀ o, (o < T ∨ T + 51 ≤ o) → I3 o = h.2.1 o ∧ R3 o = h.2.2 o) ∧ Ev M_X5_carryOut 0 [(0, zr (some T)), (1, zr (some (4096 + 6))), (2, zi a), (3, zi b), (4, zi c)] [] h (0, 0) (.inl (some (zi ans)), (h.1, I3, R3)) := by
  have hG2 := hG.step hw9 hc9
  obtain ⟨⟨dep, hw⟩, hN, hA, hD⟩ := hG
  obtain ⟨⟨dep2, hw2⟩, -, -, -⟩ := hG2
  have hB : 24 * (60 + 99 * (q0 : Int)) ≤ 1000000000 := by omega
  have hB2 : 24 * (60 + 99 * ((q0 + 1 : Nat) : Int)) ≤ 1000000000 := by omega
  have hk := hc9.k7
  obtain ⟨rfl, rfl, k, G, hzk, hG9, rfl⟩ := hk
  obtain ⟨k', hzk', hkn, hk0, hx0⟩ := wRem_pos (hw9.k7).symm
  have : k' = k := by omega
  subst this
  obtain ⟨len2, st2, sl2, dp2, hl2, ht2⟩ := plan_ex hw2
  obtain ⟨j, hj, ej, k1⟩ := s_find_some hC hw hzk
  subst ej
  have hj1 : 1 ≤ j := by
    by_cases e : j = 0
    · subst e
      rw [hC.q0] at hk0
      exact absurd (hk0.symm.trans hw.2.1.1) hx0
    · omega
  obtain ⟨I3, R3, ⟨ar2, q2, hC3, hP3, hfr⟩, k2⟩ := s_dropAll hC hP hw hj1 hj hG9 hw2 hB2 hl2 ht2
  refine ⟨I3, R3, ⟨⟨_, _, len2, st2, sl2, dp2, hC3, hl2, ht2, hP3⟩, hfr⟩, ?_⟩
  refine Ev.aload_n (pc := 0) (n := (0, 0)) (i := 1) dX5_carryOut_0 rfl rfl ?_
  refine Ev.gsC (pc := 1) (n := (0, 0)) (i := 7) dX5_carryOut_1 (by decide) (zgw_in (List.mem_of_getElem? (i := 418) (by decide +kernel)) rfl) ?_
  refine Ev.acmp_ne (pc := 4) (n := (0, 0)) (tgt := 17) dX5_carryOut_4 rfl (Or.inr (Or.inl ⟨6, 7, by decide, by decide, rfl, rfl⟩)) (fun hc => ?_) (fun hc => absurd hc (by decide))
  refine Ev.aload_n (pc := 17) (n := (0, 0)) (i := 0) dX5_carryOut_17 rfl rfl ?_
  refine Ev.iload_n (pc := 18) (n := (0, 0)) (i := 2) dX5_carryOut_18 rfl rfl ?_
  refine Ev.callV (pc := 19) (n := (0, 0)) (ob := T) (as := [zi a]) (st := []) (k1) dX5_carryOut_19 ok_X5_find (lk_X5_126 rfl) ⟨(Nat.le_of_ble_eq_true rfl), (Nat.le_of_ble_eq_true rfl)⟩ hC.1.1.1 ⟨by decide, rfl⟩ rfl (Nat.le_of_ble_eq_true rfl) (Nat.le_of_ble_eq_true rfl) ⟨(Nat.le_of_ble_eq_true rfl), (Nat.le_of_ble_eq_true rfl)⟩ ?_
  refine Ev.astore (pc := 22) (n := (0, 0)) (i := 5) (L' := [(5, zr (some (ar j))), (0, zr (some T)), (1, zr (some (4096 + 6))), (2, zi a), (3, zi b), (4, zi c)]) dX5_carryOut_22 (Nat.le_of_ble_eq_true rfl) rfl ?_
  refine Ev.aload (pc := 24) (n := (0, 0)) dX5_carryOut_24 rfl ?_
  refine Ev.ifnonnull (pc := 26) (n := (0, 0)) (tgt := 31) dX5_carryOut_26 rfl (fun x9 hc => ?_) (fun hc => nomatch hc)
  refine Ev.gsW (pc := 31) (n := (0, 0)) dX5_carryOut_31 (zgw_in (List.mem_of_getElem? (i := 436) (by decide +kernel)) rfl) ?_
  refine Ev.aload_n (pc := 34) (n := (0, 0)) (i := 1) dX5_carryOut_34 rfl rfl ?_
  refine Ev.callO (pc := 35) (n := (0, 0)) (i := 6) (s_ord (by decide)) dX5_carryOut_35 (by decide) (zgw_in (List.mem_of_getElem? (i := 438) (by decide +kernel)) rfl) ⟨(Nat.le_of_ble_eq_true rfl), (Nat.le_of_ble_eq_true rfl)⟩ (Nat.le_of_ble_eq_true rfl) ⟨(Nat.le_of_ble_eq_true rfl), (Nat.le_of_ble_eq_true rfl)⟩ ?_
  refine Ev.iaW (pc := 38) (n := (0, 0)) (x := 7) dX5_carryOut_38 (by decide) (by decide) rfl ?_
  refine Ev.tableIn (pc := 39) (n := (0, 0)) (off := 72) (tgt := 111) dX5_carryOut_39 (by omega) (by omega) (by rfl) rfl ?_
  refine Ev.aload_n (pc := 111) (n := (0, 0)) (i := 0) dX5_carryOut_111 rfl rfl ?_
  refine Ev.aload (pc := 112) (n := (0, 0)) dX5_carryOut_112 rfl ?_
  refine Ev.callV (pc := 114) (n := (0, 0)) (ob := T) (as := [zr (some (ar j))]) (st := []) (k2) dX5_carryOut_114 ok_X5_dropAll (lk_X5_174 rfl) ⟨(Nat.le_of_ble_eq_true rfl), (Nat.le_of_ble_eq_true rfl)⟩ hC.1.1.1 ⟨by decide, rfl⟩ rfl (Nat.le_of_ble_eq_true rfl) (Nat.le_of_ble_eq_true rfl) ⟨(Nat.le_of_ble_eq_true rfl), (Nat.le_of_ble_eq_true rfl)⟩ ?_
  exact Ev.iret dX5_carryOut_117 rfl ⟨(Nat.le_of_ble_eq_true rfl), (Nat.le_of_ble_eq_true rfl)⟩
theorem s_carryOut7 {h : zH} {T n : Nat} {F : zF} {ad dl : Int} {ar q : Nat → Nat} (hC : CT h T n F ad dl ar q) {len st sl dp : Int → Int} (hl : IsLen n F len) (ht : IsTm n F len st sl dp) (hP : PLN h n F len st sl dp ar q) {q0 : Nat} (hG : Gd q0 n F ad dl) (hq0 : q0 ≤ 80000) {a b c : Int} (hw9 : IsWhy n F 8 a b c 0) {n2 : Nat} {F2 : zF} {ad2 dl2 ans : Int} (hc9 : IsChg n F ad dl 8 a b c n2 F2 ad2 dl2 ans) : ∃ (I3 : Nat → Int → Int) (R3 : Nat → Int → Option Nat), (TS (h.1, I3, R3) T n2 F2 ad2 dl2 ∧ ∀ o, (o < T ∨ T + 51 ≤ o) → I3 o = h.2.1 o ∧ R3 o = h.2.2 o) ∧ Ev M_X5_carryOut 0 [(0, zr (some T)), (1, zr (some (4096 + 7))), (2, zi a), (3, zi b), (4, zi c)] [] h (0, 0) (.inl (some (zi ans)), (h.1, I3, R3)) := by
  have hG2 := hG.step hw9 hc9
  obtain ⟨⟨dep, hw⟩, hN, hA, hD⟩ := hG
  obtain ⟨⟨dep2, hw2⟩, -, -, -⟩ := hG2
  have hB : 24 * (60 + 99 * (q0 : Int)) ≤ 1000000000 := by omega
  have hB2 : 24 * (60 + 99 * ((q0 + 1 : Nat) : Int)) ≤ 1000000000 := by omega
  have hk := hc9.k8
  obtain ⟨rfl, rfl, rfl, rfl, len3, st3, sl3, dp3, hl3, -, rfl⟩ := hk
  have hwu := wUnt_pos (hw9.k8).symm
  have hb0 := PL.bd hw hB hl ht (k := 0) (by have := hC.n1; omega)
  rw [hl3.len0 hw hl]
  refine ⟨zup h.2.1 T 4 dl2, h.2.2, ⟨⟨ar, q, len, st, sl, dp, hC.dln dl2, hl, ht, hP.dln hC dl2⟩, fun o ho => ⟨funext fun k => zup_o _ _ _ _ (by omega), rfl⟩⟩, ?_⟩
  refine Ev.aload_n (pc := 0) (n := (0, 0)) (i := 1) dX5_carryOut_0 rfl rfl ?_
  refine Ev.gsC (pc := 1) (n := (0, 0)) (i := 7) dX5_carryOut_1 (by decide) (zgw_in (List.mem_of_getElem? (i := 418) (by decide +kernel)) rfl) ?_
  refine Ev.acmp_ne (pc := 4) (n := (0, 0)) (tgt := 17) dX5_carryOut_4 rfl (Or.inr (Or.inl ⟨7, 7, by decide, by decide, rfl, rfl⟩)) (fun hc => absurd rfl hc) (fun hc => ?_)
  refine Ev.aload_n (pc := 7) (n := (0, 0)) (i := 0) dX5_carryOut_7 rfl rfl ?_
  refine Ev.iload_n (pc := 8) (n := (0, 0)) (i := 2) dX5_carryOut_8 rfl rfl ?_
  refine Ev.putI (pc := 9) (n := (0, 0)) dX5_carryOut_9 fl_X5_27 hC.1.1.1 rfl rfl (fun h9 => by cases h9) ?_
  refine Ev.aload_n (pc := 12) (n := (0, 0)) (i := 0) dX5_carryOut_12 rfl rfl ?_
  refine Ev.callV (pc := 13) (n := (0, 0)) (ob := T) (as := []) (st := []) (s_latenessC (hC.dln dl2) (hP.dln hC dl2) (by have := hb0.1; have := hb0.2.1; have e : len ((0 : Nat) : Int) = len 0 := rfl; omega) hwu) dX5_carryOut_13 ok_X5_lateness (lk_X5_163 rfl) ⟨(Nat.le_of_ble_eq_true rfl), (Nat.le_of_ble_eq_true rfl)⟩ hC.1.1.1 ⟨by decide, rfl⟩ rfl (Nat.le_of_ble_eq_true rfl) (Nat.le_of_ble_eq_true rfl) ⟨(Nat.le_of_ble_eq_true rfl), (Nat.le_of_ble_eq_true rfl)⟩ ?_
  exact Ev.iret dX5_carryOut_16 rfl ⟨(Nat.le_of_ble_eq_true rfl), (Nat.le_of_ble_eq_true rfl)⟩
