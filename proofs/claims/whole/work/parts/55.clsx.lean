/-! ===== the class's face ===== -/
theorem sX_node_x0 {h : zH} {σ : Nat → Nat} {cnt : Nat} {t : Int → Int} {L : Nat} {S : Nat → Nat × zF × Int × Int} (hS : CS h σ cnt t L S) {n : Nat} {F : zF} {ad dl : Int} {ar q : Nat → Nat} (hC : CT h (oTr (σ 4)) n F ad dl ar q) {dep : Nat → Nat} {B : Int} (hw : WF n F dep B) (hB : 24 * (60 + B) ≤ 1000000000) {len st sl dp : Int → Int} (hl : IsLen n F len) (ht : IsTm n F len st sl dp) (hP : PLN h n F len st sl dp ar q) {x w : Int} (hz : zpos n F x = -1) : Ev M_X6_node 0 [(0, zr (some 0)), (1, zi x), (2, zi w)] [] h (0, 0) (.inr 0, h) := by
  have hM := hS.1
  have hTr := hS.2.2.2.1.2
  have hcn := hS.2.2.2.2.1.1
  have hc4 := hS.2.2.2.2.1.2
  have hK : ∀ j, j < 5 → h.1[oTr (σ j)]? = some (2, 0) := fun j hj => zk_at hM.1 (KK_T _ (hS.2.2.1.1 j hj))
  have hs5 : ∀ j, j < 5 → oTr (σ j) + 51 ≤ 260 := fun j hj => by have := hS.2.2.1.1 j hj; unfold oTr; omega
  refine Ev.aload_n (pc := 0) (n := (0, 0)) (i := 0) dX6_node_0 rfl rfl ?_
  refine Ev.iload_n (pc := 1) (n := (0, 0)) (i := 1) dX6_node_1 rfl rfl ?_
  exact Ev.callVX (pc := 2) (n := (0, 0)) (ob := 0) (as := [zi x]) (st := []) (s_existing_no hM hTr hC (x := x) hz) dX6_node_2 ok_X6_existing (lk_X6_62 rfl) ⟨(Nat.le_of_ble_eq_true rfl), (Nat.le_of_ble_eq_true rfl)⟩ (zk_at hM.1 rfl) ⟨by decide, rfl⟩ rfl (Nat.le_of_ble_eq_true rfl) (Nat.le_of_ble_eq_true rfl) ⟨(Nat.le_of_ble_eq_true rfl), (Nat.le_of_ble_eq_true rfl)⟩ rfl
theorem sX_node_x1 {h : zH} {σ : Nat → Nat} {cnt : Nat} {t : Int → Int} {L : Nat} {S : Nat → Nat × zF × Int × Int} (hS : CS h σ cnt t L S) {n : Nat} {F : zF} {ad dl : Int} {ar q : Nat → Nat} (hC : CT h (oTr (σ 4)) n F ad dl ar q) {dep : Nat → Nat} {B : Int} (hw : WF n F dep B) (hB : 24 * (60 + B) ≤ 1000000000) {len st sl dp : Int → Int} (hl : IsLen n F len) (ht : IsTm n F len st sl dp) (hP : PLN h n F len st sl dp ar q) {x w : Int} {k : Nat} (hz : zpos n F x = k) (h2 : ¬ (0 ≤ w ∧ w ≤ 12)) : Ev M_X6_node 0 [(0, zr (some 0)), (1, zi x), (2, zi w)] [] h (0, 0) (.inr 1, h) := by
  have hM := hS.1
  have hTr := hS.2.2.2.1.2
  have hcn := hS.2.2.2.2.1.1
  have hc4 := hS.2.2.2.2.1.2
  have hK : ∀ j, j < 5 → h.1[oTr (σ j)]? = some (2, 0) := fun j hj => zk_at hM.1 (KK_T _ (hS.2.2.1.1 j hj))
  have hs5 : ∀ j, j < 5 → oTr (σ j) + 51 ≤ 260 := fun j hj => by have := hS.2.2.1.1 j hj; unfold oTr; omega
  obtain ⟨j, hj, ej, k1⟩ := s_existing hM hTr hC hw hz
  subst ej
  have ez : F (q j) 0 = x := (zpos_num hz).2
  have b0 := (hw.2.2.2.1 (q j) (hC.qlt hj)).1
  refine Ev.aload_n (pc := 0) (n := (0, 0)) (i := 0) dX6_node_0 rfl rfl ?_
  refine Ev.iload_n (pc := 1) (n := (0, 0)) (i := 1) dX6_node_1 rfl rfl ?_
  refine Ev.callV (pc := 2) (n := (0, 0)) (ob := 0) (as := [zi x]) (st := []) (k1) dX6_node_2 ok_X6_existing (lk_X6_62 rfl) ⟨(Nat.le_of_ble_eq_true rfl), (Nat.le_of_ble_eq_true rfl)⟩ (zk_at hM.1 rfl) ⟨by decide, rfl⟩ rfl (Nat.le_of_ble_eq_true rfl) (Nat.le_of_ble_eq_true rfl) ⟨(Nat.le_of_ble_eq_true rfl), (Nat.le_of_ble_eq_true rfl)⟩ ?_
  refine Ev.astore_n (pc := 5) (n := (1, 6)) (i := 3) (L' := [(3, zr (some (ar j))), (0, zr (some 0)), (1, zi x), (2, zi w)]) dX6_node_5 rfl (Nat.le_of_ble_eq_true rfl) rfl ?_
  refine Ev.iload_n (pc := 6) (n := (1, 6)) (i := 2) dX6_node_6 rfl rfl ?_
  refine Ev.iconst (pc := 7) (n := (1, 6)) dX6_node_7 ?_
  refine Ev.bipush (pc := 8) (n := (1, 6)) dX6_node_8 ?_
  exact Ev.callSX (pc := 10) (n := (1, 6)) (as := [zi w, zi 0, zi 12]) (st := []) (s_requireRange_no h (v := w) (lo := 0) (hi := 12) h2) dX6_node_10 ok_X6_requireRange (lk_X6_66 rfl) ⟨(Nat.le_of_ble_eq_true rfl), (Nat.le_of_ble_eq_true rfl)⟩ rfl (Nat.le_of_ble_eq_true rfl) (Nat.le_of_ble_eq_true rfl) ⟨(Nat.le_of_ble_eq_true rfl), (Nat.le_of_ble_eq_true rfl)⟩ rfl
theorem sX_node {h : zH} {σ : Nat → Nat} {cnt : Nat} {t : Int → Int} {L : Nat} {S : Nat → Nat × zF × Int × Int} (hS : CS h σ cnt t L S) {n : Nat} {F : zF} {ad dl : Int} {ar q : Nat → Nat} (hC : CT h (oTr (σ 4)) n F ad dl ar q) {dep : Nat → Nat} {B : Int} (hw : WF n F dep B) (hB : 24 * (60 + B) ≤ 1000000000) {len st sl dp : Int → Int} (hl : IsLen n F len) (ht : IsTm n F len st sl dp) (hP : PLN h n F len st sl dp ar q) {x w : Int} {k : Nat} (hz : zpos n F x = k) (h2 : 0 ≤ w ∧ w ≤ 12) : Ev M_X6_node 0 [(0, zr (some 0)), (1, zi x), (2, zi w)] [] h (0, 0) (.inl (some (zi (mnode n F len st sl dp k w))), h) := by
  have hM := hS.1
  have hTr := hS.2.2.2.1.2
  have hcn := hS.2.2.2.2.1.1
  have hc4 := hS.2.2.2.2.1.2
  have hK : ∀ j, j < 5 → h.1[oTr (σ j)]? = some (2, 0) := fun j hj => zk_at hM.1 (KK_T _ (hS.2.2.1.1 j hj))
  have hs5 : ∀ j, j < 5 → oTr (σ j) + 51 ≤ 260 := fun j hj => by have := hS.2.2.1.1 j hj; unfold oTr; omega
  obtain ⟨j, hj, ej, k1⟩ := s_existing hM hTr hC hw hz
  subst ej
  have ez : F (q j) 0 = x := (zpos_num hz).2
  have b0 := (hw.2.2.2.1 (q j) (hC.qlt hj)).1
  refine Ev.aload_n (pc := 0) (n := (0, 0)) (i := 0) dX6_node_0 rfl rfl ?_
  refine Ev.iload_n (pc := 1) (n := (0, 0)) (i := 1) dX6_node_1 rfl rfl ?_
  refine Ev.callV (pc := 2) (n := (0, 0)) (ob := 0) (as := [zi x]) (st := []) (k1) dX6_node_2 ok_X6_existing (lk_X6_62 rfl) ⟨(Nat.le_of_ble_eq_true rfl), (Nat.le_of_ble_eq_true rfl)⟩ (zk_at hM.1 rfl) ⟨by decide, rfl⟩ rfl (Nat.le_of_ble_eq_true rfl) (Nat.le_of_ble_eq_true rfl) ⟨(Nat.le_of_ble_eq_true rfl), (Nat.le_of_ble_eq_true rfl)⟩ ?_
  refine Ev.astore_n (pc := 5) (n := (1, 6)) (i := 3) (L' := [(3, zr (some (ar j))), (0, zr (some 0)), (1, zi x), (2, zi w)]) dX6_node_5 rfl (Nat.le_of_ble_eq_true rfl) rfl ?_
  refine Ev.iload_n (pc := 6) (n := (1, 6)) (i := 2) dX6_node_6 rfl rfl ?_
  refine Ev.iconst (pc := 7) (n := (1, 6)) dX6_node_7 ?_
  refine Ev.bipush (pc := 8) (n := (1, 6)) dX6_node_8 ?_
  refine Ev.callS (pc := 10) (n := (1, 6)) (as := [zi w, zi 0, zi 12]) (st := []) (s_requireRange h (v := w) (lo := 0) (hi := 12) h2) dX6_node_10 ok_X6_requireRange (lk_X6_66 rfl) ⟨(Nat.le_of_ble_eq_true rfl), (Nat.le_of_ble_eq_true rfl)⟩ rfl (Nat.le_of_ble_eq_true rfl) (Nat.le_of_ble_eq_true rfl) ⟨(Nat.le_of_ble_eq_true rfl), (Nat.le_of_ble_eq_true rfl)⟩ ?_
  refine Ev.aload_n (pc := 13) (n := (2, 12)) (i := 3) dX6_node_13 rfl rfl ?_
  refine Ev.iload_n (pc := 14) (n := (2, 12)) (i := 2) dX6_node_14 rfl rfl ?_
  refine Ev.callV (pc := 15) (n := (2, 12)) (ob := (ar j)) (as := [zi w]) (st := []) (s_valueN hC hw hB hl ht hP hj h2) dX6_node_15 ok_X3_value (lk_X6_70 rfl) ⟨(Nat.le_of_ble_eq_true rfl), (Nat.le_of_ble_eq_true rfl)⟩ (hC.nd hj).1 ⟨by decide, rfl⟩ rfl (Nat.le_of_ble_eq_true rfl) (Nat.le_of_ble_eq_true rfl) ⟨(Nat.le_of_ble_eq_true rfl), (Nat.le_of_ble_eq_true rfl)⟩ ?_
  exact Ev.iret dX6_node_18 rfl ⟨(Nat.le_of_ble_eq_true rfl), (Nat.le_of_ble_eq_true rfl)⟩
theorem sX_row_x0 {h : zH} {σ : Nat → Nat} {cnt : Nat} {t : Int → Int} {L : Nat} {S : Nat → Nat × zF × Int × Int} (hS : CS h σ cnt t L S) {n : Nat} {F : zF} {ad dl : Int} {ar q : Nat → Nat} (hC : CT h (oTr (σ 4)) n F ad dl ar q) {dep : Nat → Nat} {B : Int} (hw : WF n F dep B) (hB : 24 * (60 + B) ≤ 1000000000) {len st sl dp : Int → Int} (hl : IsLen n F len) (ht : IsTm n F len st sl dp) (hP : PLN h n F len st sl dp ar q) {x r w : Int} (hz : zpos n F x = -1) : Ev M_X6_row 0 [(0, zr (some 0)), (1, zi x), (2, zi r), (3, zi w)] [] h (0, 0) (.inr 0, h) := by
  have hM := hS.1
  have hTr := hS.2.2.2.1.2
  have hcn := hS.2.2.2.2.1.1
  have hc4 := hS.2.2.2.2.1.2
  have hK : ∀ j, j < 5 → h.1[oTr (σ j)]? = some (2, 0) := fun j hj => zk_at hM.1 (KK_T _ (hS.2.2.1.1 j hj))
  have hs5 : ∀ j, j < 5 → oTr (σ j) + 51 ≤ 260 := fun j hj => by have := hS.2.2.1.1 j hj; unfold oTr; omega
  refine Ev.aload_n (pc := 0) (n := (0, 0)) (i := 0) dX6_row_0 rfl rfl ?_
  refine Ev.iload_n (pc := 1) (n := (0, 0)) (i := 1) dX6_row_1 rfl rfl ?_
  exact Ev.callVX (pc := 2) (n := (0, 0)) (ob := 0) (as := [zi x]) (st := []) (s_existing_no hM hTr hC (x := x) hz) dX6_row_2 ok_X6_existing (lk_X6_62 rfl) ⟨(Nat.le_of_ble_eq_true rfl), (Nat.le_of_ble_eq_true rfl)⟩ (zk_at hM.1 rfl) ⟨by decide, rfl⟩ rfl (Nat.le_of_ble_eq_true rfl) (Nat.le_of_ble_eq_true rfl) ⟨(Nat.le_of_ble_eq_true rfl), (Nat.le_of_ble_eq_true rfl)⟩ rfl
theorem sX_row_x1 {h : zH} {σ : Nat → Nat} {cnt : Nat} {t : Int → Int} {L : Nat} {S : Nat → Nat × zF × Int × Int} (hS : CS h σ cnt t L S) {n : Nat} {F : zF} {ad dl : Int} {ar q : Nat → Nat} (hC : CT h (oTr (σ 4)) n F ad dl ar q) {dep : Nat → Nat} {B : Int} (hw : WF n F dep B) (hB : 24 * (60 + B) ≤ 1000000000) {len st sl dp : Int → Int} (hl : IsLen n F len) (ht : IsTm n F len st sl dp) (hP : PLN h n F len st sl dp ar q) {x r w : Int} {k : Nat} (hz : zpos n F x = k) (h2 : ¬ ((0 ≤ r ∧ r ≤ 3) ∧ 0 ≤ w ∧ w ≤ 3)) : Ev M_X6_row 0 [(0, zr (some 0)), (1, zi x), (2, zi r), (3, zi w)] [] h (0, 0) (.inr 1, h) := by
  have hM := hS.1
  have hTr := hS.2.2.2.1.2
  have hcn := hS.2.2.2.2.1.1
  have hc4 := hS.2.2.2.2.1.2
  have hK : ∀ j, j < 5 → h.1[oTr (σ j)]? = some (2, 0) := fun j hj => zk_at hM.1 (KK_T _ (hS.2.2.1.1 j hj))
  have hs5 : ∀ j, j < 5 → oTr (σ j) + 51 ≤ 260 := fun j hj => by have := hS.2.2.1.1 j hj; unfold oTr; omega
  obtain ⟨j, hj, ej, k1⟩ := s_existing hM hTr hC hw hz
  subst ej
  have ez : F (q j) 0 = x := (zpos_num hz).2
  have b0 := (hw.2.2.2.1 (q j) (hC.qlt hj)).1
  refine Ev.aload_n (pc := 0) (n := (0, 0)) (i := 0) dX6_row_0 rfl rfl ?_
  refine Ev.iload_n (pc := 1) (n := (0, 0)) (i := 1) dX6_row_1 rfl rfl ?_
  refine Ev.callV (pc := 2) (n := (0, 0)) (ob := 0) (as := [zi x]) (st := []) (k1) dX6_row_2 ok_X6_existing (lk_X6_62 rfl) ⟨(Nat.le_of_ble_eq_true rfl), (Nat.le_of_ble_eq_true rfl)⟩ (zk_at hM.1 rfl) ⟨by decide, rfl⟩ rfl (Nat.le_of_ble_eq_true rfl) (Nat.le_of_ble_eq_true rfl) ⟨(Nat.le_of_ble_eq_true rfl), (Nat.le_of_ble_eq_true rfl)⟩ ?_
  refine Ev.astore (pc := 5) (n := (1, 6)) (i := 4) (L' := [(4, zr (some (ar j))), (0, zr (some 0)), (1, zi x), (2, zi r), (3, zi w)]) dX6_row_5 (Nat.le_of_ble_eq_true rfl) rfl ?_
  refine Ev.iload_n (pc := 7) (n := (1, 6)) (i := 2) dX6_row_7 rfl rfl ?_
  refine Ev.iconst (pc := 8) (n := (1, 6)) dX6_row_8 ?_
  refine Ev.iconst (pc := 9) (n := (1, 6)) dX6_row_9 ?_
  by_cases h3 : 0 ≤ r ∧ r ≤ 3
  rotate_left
  · skip
    exact Ev.callSX (pc := 10) (n := (1, 6)) (as := [zi r, zi 0, zi 3]) (st := []) (s_requireRange_no h (v := r) (lo := 0) (hi := 3) h3) dX6_row_10 ok_X6_requireRange (lk_X6_66 rfl) ⟨(Nat.le_of_ble_eq_true rfl), (Nat.le_of_ble_eq_true rfl)⟩ rfl (Nat.le_of_ble_eq_true rfl) (Nat.le_of_ble_eq_true rfl) ⟨(Nat.le_of_ble_eq_true rfl), (Nat.le_of_ble_eq_true rfl)⟩ rfl
  · skip
    refine Ev.callS (pc := 10) (n := (1, 6)) (as := [zi r, zi 0, zi 3]) (st := []) (s_requireRange h (v := r) (lo := 0) (hi := 3) h3) dX6_row_10 ok_X6_requireRange (lk_X6_66 rfl) ⟨(Nat.le_of_ble_eq_true rfl), (Nat.le_of_ble_eq_true rfl)⟩ rfl (Nat.le_of_ble_eq_true rfl) (Nat.le_of_ble_eq_true rfl) ⟨(Nat.le_of_ble_eq_true rfl), (Nat.le_of_ble_eq_true rfl)⟩ ?_
    refine Ev.iload_n (pc := 13) (n := (2, 12)) (i := 3) dX6_row_13 rfl rfl ?_
    refine Ev.iconst (pc := 14) (n := (2, 12)) dX6_row_14 ?_
    refine Ev.iconst (pc := 15) (n := (2, 12)) dX6_row_15 ?_
    exact Ev.callSX (pc := 16) (n := (2, 12)) (as := [zi w, zi 0, zi 3]) (st := []) (s_requireRange_no h (v := w) (lo := 0) (hi := 3) (fun g => h2 ⟨h3, g⟩)) dX6_row_16 ok_X6_requireRange (lk_X6_66 rfl) ⟨(Nat.le_of_ble_eq_true rfl), (Nat.le_of_ble_eq_true rfl)⟩ rfl (Nat.le_of_ble_eq_true rfl) (Nat.le_of_ble_eq_true rfl) ⟨(Nat.le_of_ble_eq_true rfl), (Nat.le_of_ble_eq_true rfl)⟩ rfl
theorem sX_row_x2 {h : zH} {σ : Nat → Nat} {cnt : Nat} {t : Int → Int} {L : Nat} {S : Nat → Nat × zF × Int × Int} (hS : CS h σ cnt t L S) {n : Nat} {F : zF} {ad dl : Int} {ar q : Nat → Nat} (hC : CT h (oTr (σ 4)) n F ad dl ar q) {dep : Nat → Nat} {B : Int} (hw : WF n F dep B) (hB : 24 * (60 + B) ≤ 1000000000) {len st sl dp : Int → Int} (hl : IsLen n F len) (ht : IsTm n F len st sl dp) (hP : PLN h n F len st sl dp ar q) {x r w : Int} {k : Nat} (hz : zpos n F x = k) (h2 : (0 ≤ r ∧ r ≤ 3) ∧ 0 ≤ w ∧ w ≤ 3) (h4 : F k 1 = 1) : Ev M_X6_row 0 [(0, zr (some 0)), (1, zi x), (2, zi r), (3, zi w)] [] h (0, 0) (.inr 2, h) := by
  have hM := hS.1
  have hTr := hS.2.2.2.1.2
  have hcn := hS.2.2.2.2.1.1
  have hc4 := hS.2.2.2.2.1.2
  have hK : ∀ j, j < 5 → h.1[oTr (σ j)]? = some (2, 0) := fun j hj => zk_at hM.1 (KK_T _ (hS.2.2.1.1 j hj))
  have hs5 : ∀ j, j < 5 → oTr (σ j) + 51 ≤ 260 := fun j hj => by have := hS.2.2.1.1 j hj; unfold oTr; omega
  obtain ⟨j, hj, ej, k1⟩ := s_existing hM hTr hC hw hz
  subst ej
  have ez : F (q j) 0 = x := (zpos_num hz).2
  have b0 := (hw.2.2.2.1 (q j) (hC.qlt hj)).1
  refine Ev.aload_n (pc := 0) (n := (0, 0)) (i := 0) dX6_row_0 rfl rfl ?_
  refine Ev.iload_n (pc := 1) (n := (0, 0)) (i := 1) dX6_row_1 rfl rfl ?_
  refine Ev.callV (pc := 2) (n := (0, 0)) (ob := 0) (as := [zi x]) (st := []) (k1) dX6_row_2 ok_X6_existing (lk_X6_62 rfl) ⟨(Nat.le_of_ble_eq_true rfl), (Nat.le_of_ble_eq_true rfl)⟩ (zk_at hM.1 rfl) ⟨by decide, rfl⟩ rfl (Nat.le_of_ble_eq_true rfl) (Nat.le_of_ble_eq_true rfl) ⟨(Nat.le_of_ble_eq_true rfl), (Nat.le_of_ble_eq_true rfl)⟩ ?_
  refine Ev.astore (pc := 5) (n := (1, 6)) (i := 4) (L' := [(4, zr (some (ar j))), (0, zr (some 0)), (1, zi x), (2, zi r), (3, zi w)]) dX6_row_5 (Nat.le_of_ble_eq_true rfl) rfl ?_
  refine Ev.iload_n (pc := 7) (n := (1, 6)) (i := 2) dX6_row_7 rfl rfl ?_
  refine Ev.iconst (pc := 8) (n := (1, 6)) dX6_row_8 ?_
  refine Ev.iconst (pc := 9) (n := (1, 6)) dX6_row_9 ?_
  refine Ev.callS (pc := 10) (n := (1, 6)) (as := [zi r, zi 0, zi 3]) (st := []) (s_requireRange h (v := r) (lo := 0) (hi := 3) h2.1) dX6_row_10 ok_X6_requireRange (lk_X6_66 rfl) ⟨(Nat.le_of_ble_eq_true rfl), (Nat.le_of_ble_eq_true rfl)⟩ rfl (Nat.le_of_ble_eq_true rfl) (Nat.le_of_ble_eq_true rfl) ⟨(Nat.le_of_ble_eq_true rfl), (Nat.le_of_ble_eq_true rfl)⟩ ?_
  refine Ev.iload_n (pc := 13) (n := (2, 12)) (i := 3) dX6_row_13 rfl rfl ?_
  refine Ev.iconst (pc := 14) (n := (2, 12)) dX6_row_14 ?_
  refine Ev.iconst (pc := 15) (n := (2, 12)) dX6_row_15 ?_
  refine Ev.callS (pc := 16) (n := (2, 12)) (as := [zi w, zi 0, zi 3]) (st := []) (s_requireRange h (v := w) (lo := 0) (hi := 3) h2.2) dX6_row_16 ok_X6_requireRange (lk_X6_66 rfl) ⟨(Nat.le_of_ble_eq_true rfl), (Nat.le_of_ble_eq_true rfl)⟩ rfl (Nat.le_of_ble_eq_true rfl) (Nat.le_of_ble_eq_true rfl) ⟨(Nat.le_of_ble_eq_true rfl), (Nat.le_of_ble_eq_true rfl)⟩ ?_
  refine Ev.aload (pc := 19) (n := (3, 18)) dX6_row_19 rfl ?_
  exact Ev.callSX (pc := 21) (n := (3, 18)) (as := [zr (some (ar j))]) (st := []) (s_requireGroup_no hC hj h4) dX6_row_21 ok_X6_requireGroup (lk_X6_76 rfl) ⟨(Nat.le_of_ble_eq_true rfl), (Nat.le_of_ble_eq_true rfl)⟩ rfl (Nat.le_of_ble_eq_true rfl) (Nat.le_of_ble_eq_true rfl) ⟨(Nat.le_of_ble_eq_true rfl), (Nat.le_of_ble_eq_true rfl)⟩ rfl
theorem sX_row {h : zH} {σ : Nat → Nat} {cnt : Nat} {t : Int → Int} {L : Nat} {S : Nat → Nat × zF × Int × Int} (hS : CS h σ cnt t L S) {n : Nat} {F : zF} {ad dl : Int} {ar q : Nat → Nat} (hC : CT h (oTr (σ 4)) n F ad dl ar q) {dep : Nat → Nat} {B : Int} (hw : WF n F dep B) (hB : 24 * (60 + B) ≤ 1000000000) {len st sl dp : Int → Int} (hl : IsLen n F len) (ht : IsTm n F len st sl dp) (hP : PLN h n F len st sl dp ar q) {x r w : Int} {k : Nat} (hz : zpos n F x = k) (h2 : (0 ≤ r ∧ r ≤ 3) ∧ 0 ≤ w ∧ w ≤ 3) (h4 : F k 1 = 0) : Ev M_X6_row 0 [(0, zr (some 0)), (1, zi x), (2, zi r), (3, zi w)] [] h (0, 0) (.inl (some (zi (mrow n F len sl k x r w))), h) := by
  have hM := hS.1
  have hTr := hS.2.2.2.1.2
  have hcn := hS.2.2.2.2.1.1
  have hc4 := hS.2.2.2.2.1.2
  have hK : ∀ j, j < 5 → h.1[oTr (σ j)]? = some (2, 0) := fun j hj => zk_at hM.1 (KK_T _ (hS.2.2.1.1 j hj))
  have hs5 : ∀ j, j < 5 → oTr (σ j) + 51 ≤ 260 := fun j hj => by have := hS.2.2.1.1 j hj; unfold oTr; omega
  obtain ⟨j, hj, ej, k1⟩ := s_existing hM hTr hC hw hz
  subst ej
  have ez : F (q j) 0 = x := (zpos_num hz).2
  have b0 := (hw.2.2.2.1 (q j) (hC.qlt hj)).1
  refine Ev.aload_n (pc := 0) (n := (0, 0)) (i := 0) dX6_row_0 rfl rfl ?_
  refine Ev.iload_n (pc := 1) (n := (0, 0)) (i := 1) dX6_row_1 rfl rfl ?_
  refine Ev.callV (pc := 2) (n := (0, 0)) (ob := 0) (as := [zi x]) (st := []) (k1) dX6_row_2 ok_X6_existing (lk_X6_62 rfl) ⟨(Nat.le_of_ble_eq_true rfl), (Nat.le_of_ble_eq_true rfl)⟩ (zk_at hM.1 rfl) ⟨by decide, rfl⟩ rfl (Nat.le_of_ble_eq_true rfl) (Nat.le_of_ble_eq_true rfl) ⟨(Nat.le_of_ble_eq_true rfl), (Nat.le_of_ble_eq_true rfl)⟩ ?_
  refine Ev.astore (pc := 5) (n := (1, 6)) (i := 4) (L' := [(4, zr (some (ar j))), (0, zr (some 0)), (1, zi x), (2, zi r), (3, zi w)]) dX6_row_5 (Nat.le_of_ble_eq_true rfl) rfl ?_
  refine Ev.iload_n (pc := 7) (n := (1, 6)) (i := 2) dX6_row_7 rfl rfl ?_
  refine Ev.iconst (pc := 8) (n := (1, 6)) dX6_row_8 ?_
  refine Ev.iconst (pc := 9) (n := (1, 6)) dX6_row_9 ?_
  refine Ev.callS (pc := 10) (n := (1, 6)) (as := [zi r, zi 0, zi 3]) (st := []) (s_requireRange h (v := r) (lo := 0) (hi := 3) h2.1) dX6_row_10 ok_X6_requireRange (lk_X6_66 rfl) ⟨(Nat.le_of_ble_eq_true rfl), (Nat.le_of_ble_eq_true rfl)⟩ rfl (Nat.le_of_ble_eq_true rfl) (Nat.le_of_ble_eq_true rfl) ⟨(Nat.le_of_ble_eq_true rfl), (Nat.le_of_ble_eq_true rfl)⟩ ?_
  refine Ev.iload_n (pc := 13) (n := (2, 12)) (i := 3) dX6_row_13 rfl rfl ?_
  refine Ev.iconst (pc := 14) (n := (2, 12)) dX6_row_14 ?_
  refine Ev.iconst (pc := 15) (n := (2, 12)) dX6_row_15 ?_
  refine Ev.callS (pc := 16) (n := (2, 12)) (as := [zi w, zi 0, zi 3]) (st := []) (s_requireRange h (v := w) (lo := 0) (hi := 3) h2.2) dX6_row_16 ok_X6_requireRange (lk_X6_66 rfl) ⟨(Nat.le_of_ble_eq_true rfl), (Nat.le_of_ble_eq_true rfl)⟩ rfl (Nat.le_of_ble_eq_true rfl) (Nat.le_of_ble_eq_true rfl) ⟨(Nat.le_of_ble_eq_true rfl), (Nat.le_of_ble_eq_true rfl)⟩ ?_
  refine Ev.aload (pc := 19) (n := (3, 18)) dX6_row_19 rfl ?_
  refine Ev.callS (pc := 21) (n := (3, 18)) (as := [zr (some (ar j))]) (st := []) (s_requireGroup hC hj h4) dX6_row_21 ok_X6_requireGroup (lk_X6_76 rfl) ⟨(Nat.le_of_ble_eq_true rfl), (Nat.le_of_ble_eq_true rfl)⟩ rfl (Nat.le_of_ble_eq_true rfl) (Nat.le_of_ble_eq_true rfl) ⟨(Nat.le_of_ble_eq_true rfl), (Nat.le_of_ble_eq_true rfl)⟩ ?_
  refine Ev.aload_n (pc := 24) (n := (4, 24)) (i := 0) dX6_row_24 rfl rfl ?_
  refine Ev.gR (pc := 25) (n := (4, 24)) (r := (some (oTr (σ 4)))) dX6_row_25 fl_X6_27 (zk_at hM.1 rfl) rfl hTr ?_
  refine Ev.aload (pc := 28) (n := (4, 24)) dX6_row_28 rfl ?_
  refine Ev.iload_n (pc := 30) (n := (4, 24)) (i := 2) dX6_row_30 rfl rfl ?_
  refine Ev.iload_n (pc := 31) (n := (4, 24)) (i := 3) dX6_row_31 rfl rfl ?_
  refine Ev.callV (pc := 32) (n := (4, 24)) (ob := (oTr (σ 4))) (as := [zr (some (ar j)), zi r, zi w]) (st := []) (s_rowValueC hC hw hB hl ht hP hj (r := r) (by omega) h2.2) dX6_row_32 ok_X5_rowValue (lk_X6_80 rfl) ⟨(Nat.le_of_ble_eq_true rfl), (Nat.le_of_ble_eq_true rfl)⟩ (hK 4 (by decide)) ⟨by decide, rfl⟩ rfl (Nat.le_of_ble_eq_true rfl) (Nat.le_of_ble_eq_true rfl) ⟨(Nat.le_of_ble_eq_true rfl), (Nat.le_of_ble_eq_true rfl)⟩ ?_
  rw [ez]
  exact Ev.iret dX6_row_35 rfl ⟨(Nat.le_of_ble_eq_true rfl), (Nat.le_of_ble_eq_true rfl)⟩
theorem sX_child_x0 {h : zH} {σ : Nat → Nat} {cnt : Nat} {t : Int → Int} {L : Nat} {S : Nat → Nat × zF × Int × Int} (hS : CS h σ cnt t L S) {n : Nat} {F : zF} {ad dl : Int} {ar q : Nat → Nat} (hC : CT h (oTr (σ 4)) n F ad dl ar q) {dep : Nat → Nat} {B : Int} (hw : WF n F dep B) (hB : 24 * (60 + B) ≤ 1000000000) {len st sl dp : Int → Int} (hl : IsLen n F len) (ht : IsTm n F len st sl dp) (hP : PLN h n F len st sl dp ar q) {x r w : Int} (hz : zpos n F x = -1) : Ev M_X6_child 0 [(0, zr (some 0)), (1, zi x), (2, zi r), (3, zi w)] [] h (0, 0) (.inr 0, h) := by
  have hM := hS.1
  have hTr := hS.2.2.2.1.2
  have hcn := hS.2.2.2.2.1.1
  have hc4 := hS.2.2.2.2.1.2
  have hK : ∀ j, j < 5 → h.1[oTr (σ j)]? = some (2, 0) := fun j hj => zk_at hM.1 (KK_T _ (hS.2.2.1.1 j hj))
  have hs5 : ∀ j, j < 5 → oTr (σ j) + 51 ≤ 260 := fun j hj => by have := hS.2.2.1.1 j hj; unfold oTr; omega
  refine Ev.aload_n (pc := 0) (n := (0, 0)) (i := 0) dX6_child_0 rfl rfl ?_
  refine Ev.iload_n (pc := 1) (n := (0, 0)) (i := 1) dX6_child_1 rfl rfl ?_
  exact Ev.callVX (pc := 2) (n := (0, 0)) (ob := 0) (as := [zi x]) (st := []) (s_existing_no hM hTr hC (x := x) hz) dX6_child_2 ok_X6_existing (lk_X6_62 rfl) ⟨(Nat.le_of_ble_eq_true rfl), (Nat.le_of_ble_eq_true rfl)⟩ (zk_at hM.1 rfl) ⟨by decide, rfl⟩ rfl (Nat.le_of_ble_eq_true rfl) (Nat.le_of_ble_eq_true rfl) ⟨(Nat.le_of_ble_eq_true rfl), (Nat.le_of_ble_eq_true rfl)⟩ rfl
theorem sX_child_x1 {h : zH} {σ : Nat → Nat} {cnt : Nat} {t : Int → Int} {L : Nat} {S : Nat → Nat × zF × Int × Int} (hS : CS h σ cnt t L S) {n : Nat} {F : zF} {ad dl : Int} {ar q : Nat → Nat} (hC : CT h (oTr (σ 4)) n F ad dl ar q) {dep : Nat → Nat} {B : Int} (hw : WF n F dep B) (hB : 24 * (60 + B) ≤ 1000000000) {len st sl dp : Int → Int} (hl : IsLen n F len) (ht : IsTm n F len st sl dp) (hP : PLN h n F len st sl dp ar q) {x r w : Int} {k : Nat} (hz : zpos n F x = k) (h2 : ¬ ((0 ≤ r ∧ r ≤ 3) ∧ 0 ≤ w)) : Ev M_X6_child 0 [(0, zr (some 0)), (1, zi x), (2, zi r), (3, zi w)] [] h (0, 0) (.inr 1, h) := by
  have hM := hS.1
  have hTr := hS.2.2.2.1.2
  have hcn := hS.2.2.2.2.1.1
  have hc4 := hS.2.2.2.2.1.2
  have hK : ∀ j, j < 5 → h.1[oTr (σ j)]? = some (2, 0) := fun j hj => zk_at hM.1 (KK_T _ (hS.2.2.1.1 j hj))
  have hs5 : ∀ j, j < 5 → oTr (σ j) + 51 ≤ 260 := fun j hj => by have := hS.2.2.1.1 j hj; unfold oTr; omega
  obtain ⟨j, hj, ej, k1⟩ := s_existing hM hTr hC hw hz
  subst ej
  have ez : F (q j) 0 = x := (zpos_num hz).2
  have b0 := (hw.2.2.2.1 (q j) (hC.qlt hj)).1
  refine Ev.aload_n (pc := 0) (n := (0, 0)) (i := 0) dX6_child_0 rfl rfl ?_
  refine Ev.iload_n (pc := 1) (n := (0, 0)) (i := 1) dX6_child_1 rfl rfl ?_
  refine Ev.callV (pc := 2) (n := (0, 0)) (ob := 0) (as := [zi x]) (st := []) (k1) dX6_child_2 ok_X6_existing (lk_X6_62 rfl) ⟨(Nat.le_of_ble_eq_true rfl), (Nat.le_of_ble_eq_true rfl)⟩ (zk_at hM.1 rfl) ⟨by decide, rfl⟩ rfl (Nat.le_of_ble_eq_true rfl) (Nat.le_of_ble_eq_true rfl) ⟨(Nat.le_of_ble_eq_true rfl), (Nat.le_of_ble_eq_true rfl)⟩ ?_
  refine Ev.astore (pc := 5) (n := (1, 6)) (i := 4) (L' := [(4, zr (some (ar j))), (0, zr (some 0)), (1, zi x), (2, zi r), (3, zi w)]) dX6_child_5 (Nat.le_of_ble_eq_true rfl) rfl ?_
  refine Ev.iload_n (pc := 7) (n := (1, 6)) (i := 2) dX6_child_7 rfl rfl ?_
  refine Ev.iconst (pc := 8) (n := (1, 6)) dX6_child_8 ?_
  refine Ev.iconst (pc := 9) (n := (1, 6)) dX6_child_9 ?_
  by_cases h3 : 0 ≤ r ∧ r ≤ 3
  rotate_left
  · skip
    exact Ev.callSX (pc := 10) (n := (1, 6)) (as := [zi r, zi 0, zi 3]) (st := []) (s_requireRange_no h (v := r) (lo := 0) (hi := 3) h3) dX6_child_10 ok_X6_requireRange (lk_X6_66 rfl) ⟨(Nat.le_of_ble_eq_true rfl), (Nat.le_of_ble_eq_true rfl)⟩ rfl (Nat.le_of_ble_eq_true rfl) (Nat.le_of_ble_eq_true rfl) ⟨(Nat.le_of_ble_eq_true rfl), (Nat.le_of_ble_eq_true rfl)⟩ rfl
  · skip
    refine Ev.callS (pc := 10) (n := (1, 6)) (as := [zi r, zi 0, zi 3]) (st := []) (s_requireRange h (v := r) (lo := 0) (hi := 3) h3) dX6_child_10 ok_X6_requireRange (lk_X6_66 rfl) ⟨(Nat.le_of_ble_eq_true rfl), (Nat.le_of_ble_eq_true rfl)⟩ rfl (Nat.le_of_ble_eq_true rfl) (Nat.le_of_ble_eq_true rfl) ⟨(Nat.le_of_ble_eq_true rfl), (Nat.le_of_ble_eq_true rfl)⟩ ?_
    refine Ev.iload_n (pc := 13) (n := (2, 12)) (i := 3) dX6_child_13 rfl rfl ?_
    exact Ev.callSX (pc := 14) (n := (2, 12)) (as := [zi w]) (st := []) (s_requireNotNegative_no h (v := w) (fun g => h2 ⟨h3, g⟩)) dX6_child_14 ok_X6_requireNotNegative (lk_X6_84 rfl) ⟨(Nat.le_of_ble_eq_true rfl), (Nat.le_of_ble_eq_true rfl)⟩ rfl (Nat.le_of_ble_eq_true rfl) (Nat.le_of_ble_eq_true rfl) ⟨(Nat.le_of_ble_eq_true rfl), (Nat.le_of_ble_eq_true rfl)⟩ rfl
theorem sX_child_x2 {h : zH} {σ : Nat → Nat} {cnt : Nat} {t : Int → Int} {L : Nat} {S : Nat → Nat × zF × Int × Int} (hS : CS h σ cnt t L S) {n : Nat} {F : zF} {ad dl : Int} {ar q : Nat → Nat} (hC : CT h (oTr (σ 4)) n F ad dl ar q) {dep : Nat → Nat} {B : Int} (hw : WF n F dep B) (hB : 24 * (60 + B) ≤ 1000000000) {len st sl dp : Int → Int} (hl : IsLen n F len) (ht : IsTm n F len st sl dp) (hP : PLN h n F len st sl dp ar q) {x r w : Int} {k : Nat} (hz : zpos n F x = k) (h2 : (0 ≤ r ∧ r ≤ 3) ∧ 0 ≤ w) (h4 : F k 1 = 1) : Ev M_X6_child 0 [(0, zr (some 0)), (1, zi x), (2, zi r), (3, zi w)] [] h (0, 0) (.inr 2, h) := by
  have hM := hS.1
  have hTr := hS.2.2.2.1.2
  have hcn := hS.2.2.2.2.1.1
  have hc4 := hS.2.2.2.2.1.2
  have hK : ∀ j, j < 5 → h.1[oTr (σ j)]? = some (2, 0) := fun j hj => zk_at hM.1 (KK_T _ (hS.2.2.1.1 j hj))
  have hs5 : ∀ j, j < 5 → oTr (σ j) + 51 ≤ 260 := fun j hj => by have := hS.2.2.1.1 j hj; unfold oTr; omega
  obtain ⟨j, hj, ej, k1⟩ := s_existing hM hTr hC hw hz
  subst ej
  have ez : F (q j) 0 = x := (zpos_num hz).2
  have b0 := (hw.2.2.2.1 (q j) (hC.qlt hj)).1
  refine Ev.aload_n (pc := 0) (n := (0, 0)) (i := 0) dX6_child_0 rfl rfl ?_
  refine Ev.iload_n (pc := 1) (n := (0, 0)) (i := 1) dX6_child_1 rfl rfl ?_
  refine Ev.callV (pc := 2) (n := (0, 0)) (ob := 0) (as := [zi x]) (st := []) (k1) dX6_child_2 ok_X6_existing (lk_X6_62 rfl) ⟨(Nat.le_of_ble_eq_true rfl), (Nat.le_of_ble_eq_true rfl)⟩ (zk_at hM.1 rfl) ⟨by decide, rfl⟩ rfl (Nat.le_of_ble_eq_true rfl) (Nat.le_of_ble_eq_true rfl) ⟨(Nat.le_of_ble_eq_true rfl), (Nat.le_of_ble_eq_true rfl)⟩ ?_
  refine Ev.astore (pc := 5) (n := (1, 6)) (i := 4) (L' := [(4, zr (some (ar j))), (0, zr (some 0)), (1, zi x), (2, zi r), (3, zi w)]) dX6_child_5 (Nat.le_of_ble_eq_true rfl) rfl ?_
  refine Ev.iload_n (pc := 7) (n := (1, 6)) (i := 2) dX6_child_7 rfl rfl ?_
  refine Ev.iconst (pc := 8) (n := (1, 6)) dX6_child_8 ?_
  refine Ev.iconst (pc := 9) (n := (1, 6)) dX6_child_9 ?_
  refine Ev.callS (pc := 10) (n := (1, 6)) (as := [zi r, zi 0, zi 3]) (st := []) (s_requireRange h (v := r) (lo := 0) (hi := 3) h2.1) dX6_child_10 ok_X6_requireRange (lk_X6_66 rfl) ⟨(Nat.le_of_ble_eq_true rfl), (Nat.le_of_ble_eq_true rfl)⟩ rfl (Nat.le_of_ble_eq_true rfl) (Nat.le_of_ble_eq_true rfl) ⟨(Nat.le_of_ble_eq_true rfl), (Nat.le_of_ble_eq_true rfl)⟩ ?_
  refine Ev.iload_n (pc := 13) (n := (2, 12)) (i := 3) dX6_child_13 rfl rfl ?_
  refine Ev.callS (pc := 14) (n := (2, 12)) (as := [zi w]) (st := []) (s_requireNotNegative h (v := w) h2.2) dX6_child_14 ok_X6_requireNotNegative (lk_X6_84 rfl) ⟨(Nat.le_of_ble_eq_true rfl), (Nat.le_of_ble_eq_true rfl)⟩ rfl (Nat.le_of_ble_eq_true rfl) (Nat.le_of_ble_eq_true rfl) ⟨(Nat.le_of_ble_eq_true rfl), (Nat.le_of_ble_eq_true rfl)⟩ ?_
  refine Ev.aload (pc := 17) (n := (3, 18)) dX6_child_17 rfl ?_
  exact Ev.callSX (pc := 19) (n := (3, 18)) (as := [zr (some (ar j))]) (st := []) (s_requireGroup_no hC hj h4) dX6_child_19 ok_X6_requireGroup (lk_X6_76 rfl) ⟨(Nat.le_of_ble_eq_true rfl), (Nat.le_of_ble_eq_true rfl)⟩ rfl (Nat.le_of_ble_eq_true rfl) (Nat.le_of_ble_eq_true rfl) ⟨(Nat.le_of_ble_eq_true rfl), (Nat.le_of_ble_eq_true rfl)⟩ rfl
theorem sX_child {h : zH} {σ : Nat → Nat} {cnt : Nat} {t : Int → Int} {L : Nat} {S : Nat → Nat × zF × Int × Int} (hS : CS h σ cnt t L S) {n : Nat} {F : zF} {ad dl : Int} {ar q : Nat → Nat} (hC : CT h (oTr (σ 4)) n F ad dl ar q) {dep : Nat → Nat} {B : Int} (hw : WF n F dep B) (hB : 24 * (60 + B) ≤ 1000000000) {len st sl dp : Int → Int} (hl : IsLen n F len) (ht : IsTm n F len st sl dp) (hP : PLN h n F len st sl dp ar q) {x r w : Int} {k : Nat} (hz : zpos n F x = k) (h2 : (0 ≤ r ∧ r ≤ 3) ∧ 0 ≤ w) (h4 : F k 1 = 0) {c : Int} (hc9 : IsChild n F x r w 0 c) : Ev M_X6_child 0 [(0, zr (some 0)), (1, zi x), (2, zi r), (3, zi w)] [] h (0, 0) (.inl (some (zi (c))), h) := by
  have hM := hS.1
  have hTr := hS.2.2.2.1.2
  have hcn := hS.2.2.2.2.1.1
  have hc4 := hS.2.2.2.2.1.2
  have hK : ∀ j, j < 5 → h.1[oTr (σ j)]? = some (2, 0) := fun j hj => zk_at hM.1 (KK_T _ (hS.2.2.1.1 j hj))
  have hs5 : ∀ j, j < 5 → oTr (σ j) + 51 ≤ 260 := fun j hj => by have := hS.2.2.1.1 j hj; unfold oTr; omega
  obtain ⟨j, hj, ej, k1⟩ := s_existing hM hTr hC hw hz
  subst ej
  have ez : F (q j) 0 = x := (zpos_num hz).2
  have b0 := (hw.2.2.2.1 (q j) (hC.qlt hj)).1
  refine Ev.aload_n (pc := 0) (n := (0, 0)) (i := 0) dX6_child_0 rfl rfl ?_
  refine Ev.iload_n (pc := 1) (n := (0, 0)) (i := 1) dX6_child_1 rfl rfl ?_
  refine Ev.callV (pc := 2) (n := (0, 0)) (ob := 0) (as := [zi x]) (st := []) (k1) dX6_child_2 ok_X6_existing (lk_X6_62 rfl) ⟨(Nat.le_of_ble_eq_true rfl), (Nat.le_of_ble_eq_true rfl)⟩ (zk_at hM.1 rfl) ⟨by decide, rfl⟩ rfl (Nat.le_of_ble_eq_true rfl) (Nat.le_of_ble_eq_true rfl) ⟨(Nat.le_of_ble_eq_true rfl), (Nat.le_of_ble_eq_true rfl)⟩ ?_
  refine Ev.astore (pc := 5) (n := (1, 6)) (i := 4) (L' := [(4, zr (some (ar j))), (0, zr (some 0)), (1, zi x), (2, zi r), (3, zi w)]) dX6_child_5 (Nat.le_of_ble_eq_true rfl) rfl ?_
  refine Ev.iload_n (pc := 7) (n := (1, 6)) (i := 2) dX6_child_7 rfl rfl ?_
  refine Ev.iconst (pc := 8) (n := (1, 6)) dX6_child_8 ?_
  refine Ev.iconst (pc := 9) (n := (1, 6)) dX6_child_9 ?_
  refine Ev.callS (pc := 10) (n := (1, 6)) (as := [zi r, zi 0, zi 3]) (st := []) (s_requireRange h (v := r) (lo := 0) (hi := 3) h2.1) dX6_child_10 ok_X6_requireRange (lk_X6_66 rfl) ⟨(Nat.le_of_ble_eq_true rfl), (Nat.le_of_ble_eq_true rfl)⟩ rfl (Nat.le_of_ble_eq_true rfl) (Nat.le_of_ble_eq_true rfl) ⟨(Nat.le_of_ble_eq_true rfl), (Nat.le_of_ble_eq_true rfl)⟩ ?_
  refine Ev.iload_n (pc := 13) (n := (2, 12)) (i := 3) dX6_child_13 rfl rfl ?_
  refine Ev.callS (pc := 14) (n := (2, 12)) (as := [zi w]) (st := []) (s_requireNotNegative h (v := w) h2.2) dX6_child_14 ok_X6_requireNotNegative (lk_X6_84 rfl) ⟨(Nat.le_of_ble_eq_true rfl), (Nat.le_of_ble_eq_true rfl)⟩ rfl (Nat.le_of_ble_eq_true rfl) (Nat.le_of_ble_eq_true rfl) ⟨(Nat.le_of_ble_eq_true rfl), (Nat.le_of_ble_eq_true rfl)⟩ ?_
  refine Ev.aload (pc := 17) (n := (3, 18)) dX6_child_17 rfl ?_
  refine Ev.callS (pc := 19) (n := (3, 18)) (as := [zr (some (ar j))]) (st := []) (s_requireGroup hC hj h4) dX6_child_19 ok_X6_requireGroup (lk_X6_76 rfl) ⟨(Nat.le_of_ble_eq_true rfl), (Nat.le_of_ble_eq_true rfl)⟩ rfl (Nat.le_of_ble_eq_true rfl) (Nat.le_of_ble_eq_true rfl) ⟨(Nat.le_of_ble_eq_true rfl), (Nat.le_of_ble_eq_true rfl)⟩ ?_
  refine Ev.aload_n (pc := 22) (n := (4, 24)) (i := 0) dX6_child_22 rfl rfl ?_
  refine Ev.gR (pc := 23) (n := (4, 24)) (r := (some (oTr (σ 4)))) dX6_child_23 fl_X6_27 (zk_at hM.1 rfl) rfl hTr ?_
  refine Ev.aload (pc := 26) (n := (4, 24)) dX6_child_26 rfl ?_
  refine Ev.iload_n (pc := 28) (n := (4, 24)) (i := 2) dX6_child_28 rfl rfl ?_
  refine Ev.iload_n (pc := 29) (n := (4, 24)) (i := 3) dX6_child_29 rfl rfl ?_
  refine Ev.callV (pc := 30) (n := (4, 24)) (ob := (oTr (σ 4))) (as := [zr (some (ar j)), zi r, zi w]) (st := []) (s_childNumber hC hw hB hl ht hP hj (by rw [ez]; exact hc9)) dX6_child_30 ok_X5_childNumber (lk_X6_88 rfl) ⟨(Nat.le_of_ble_eq_true rfl), (Nat.le_of_ble_eq_true rfl)⟩ (hK 4 (by decide)) ⟨by decide, rfl⟩ rfl (Nat.le_of_ble_eq_true rfl) (Nat.le_of_ble_eq_true rfl) ⟨(Nat.le_of_ble_eq_true rfl), (Nat.le_of_ble_eq_true rfl)⟩ ?_
  exact Ev.iret dX6_child_33 rfl ⟨(Nat.le_of_ble_eq_true rfl), (Nat.le_of_ble_eq_true rfl)⟩
theorem sX_critical_x1 {h : zH} {σ : Nat → Nat} {cnt : Nat} {t : Int → Int} {L : Nat} {S : Nat → Nat × zF × Int × Int} (hS : CS h σ cnt t L S) {n : Nat} {F : zF} {ad dl : Int} {ar q : Nat → Nat} (hC : CT h (oTr (σ 4)) n F ad dl ar q) {dep : Nat → Nat} {B : Int} (hw : WF n F dep B) (hB : 24 * (60 + B) ≤ 1000000000) {len st sl dp : Int → Int} (hl : IsLen n F len) (ht : IsTm n F len st sl dp) (hP : PLN h n F len st sl dp ar q) {w : Int} (h2 : ¬ (0 ≤ w)) : Ev M_X6_critical 0 [(0, zr (some 0)), (1, zi w)] [] h (0, 0) (.inr 1, h) := by
  have hM := hS.1
  have hTr := hS.2.2.2.1.2
  have hcn := hS.2.2.2.2.1.1
  have hc4 := hS.2.2.2.2.1.2
  have hK : ∀ j, j < 5 → h.1[oTr (σ j)]? = some (2, 0) := fun j hj => zk_at hM.1 (KK_T _ (hS.2.2.1.1 j hj))
  have hs5 : ∀ j, j < 5 → oTr (σ j) + 51 ≤ 260 := fun j hj => by have := hS.2.2.1.1 j hj; unfold oTr; omega
  refine Ev.iload_n (pc := 0) (n := (0, 0)) (i := 1) dX6_critical_0 rfl rfl ?_
  exact Ev.callSX (pc := 1) (n := (0, 0)) (as := [zi w]) (st := []) (s_requireNotNegative_no h (v := w) h2) dX6_critical_1 ok_X6_requireNotNegative (lk_X6_84 rfl) ⟨(Nat.le_of_ble_eq_true rfl), (Nat.le_of_ble_eq_true rfl)⟩ rfl (Nat.le_of_ble_eq_true rfl) (Nat.le_of_ble_eq_true rfl) ⟨(Nat.le_of_ble_eq_true rfl), (Nat.le_of_ble_eq_true rfl)⟩ rfl
theorem sX_critical {h : zH} {σ : Nat → Nat} {cnt : Nat} {t : Int → Int} {L : Nat} {S : Nat → Nat × zF × Int × Int} (hS : CS h σ cnt t L S) {n : Nat} {F : zF} {ad dl : Int} {ar q : Nat → Nat} (hC : CT h (oTr (σ 4)) n F ad dl ar q) {dep : Nat → Nat} {B : Int} (hw : WF n F dep B) (hB : 24 * (60 + B) ≤ 1000000000) {len st sl dp : Int → Int} (hl : IsLen n F len) (ht : IsTm n F len st sl dp) (hP : PLN h n F len st sl dp ar q) {mm : Nat} {A : Nat → Nat} (hcr : CritTo F st sl n mm A) {w : Int} (h2 : 0 ≤ w) : Ev M_X6_critical 0 [(0, zr (some 0)), (1, zi w)] [] h (0, 0) (.inl (some (zi (if w < mm then F (A w.toNat) 0 else -1))), h) := by
  have hM := hS.1
  have hTr := hS.2.2.2.1.2
  have hcn := hS.2.2.2.2.1.1
  have hc4 := hS.2.2.2.2.1.2
  have hK : ∀ j, j < 5 → h.1[oTr (σ j)]? = some (2, 0) := fun j hj => zk_at hM.1 (KK_T _ (hS.2.2.1.1 j hj))
  have hs5 : ∀ j, j < 5 → oTr (σ j) + 51 ≤ 260 := fun j hj => by have := hS.2.2.1.1 j hj; unfold oTr; omega
  refine Ev.iload_n (pc := 0) (n := (0, 0)) (i := 1) dX6_critical_0 rfl rfl ?_
  refine Ev.callS (pc := 1) (n := (0, 0)) (as := [zi w]) (st := []) (s_requireNotNegative h (v := w) h2) dX6_critical_1 ok_X6_requireNotNegative (lk_X6_84 rfl) ⟨(Nat.le_of_ble_eq_true rfl), (Nat.le_of_ble_eq_true rfl)⟩ rfl (Nat.le_of_ble_eq_true rfl) (Nat.le_of_ble_eq_true rfl) ⟨(Nat.le_of_ble_eq_true rfl), (Nat.le_of_ble_eq_true rfl)⟩ ?_
  refine Ev.aload_n (pc := 4) (n := (1, 6)) (i := 0) dX6_critical_4 rfl rfl ?_
  refine Ev.gR (pc := 5) (n := (1, 6)) (r := (some (oTr (σ 4)))) dX6_critical_5 fl_X6_27 (zk_at hM.1 rfl) rfl hTr ?_
  refine Ev.iload_n (pc := 8) (n := (1, 6)) (i := 1) dX6_critical_8 rfl rfl ?_
  refine Ev.callV (pc := 9) (n := (1, 6)) (ob := (oTr (σ 4))) (as := [zi w]) (st := []) (s_criticalNumber hC hw hB hl ht hP hcr h2) dX6_critical_9 ok_X5_criticalNumber (lk_X6_91 rfl) ⟨(Nat.le_of_ble_eq_true rfl), (Nat.le_of_ble_eq_true rfl)⟩ (hK 4 (by decide)) ⟨by decide, rfl⟩ rfl (Nat.le_of_ble_eq_true rfl) (Nat.le_of_ble_eq_true rfl) ⟨(Nat.le_of_ble_eq_true rfl), (Nat.le_of_ble_eq_true rfl)⟩ ?_
  exact Ev.iret dX6_critical_12 rfl ⟨(Nat.le_of_ble_eq_true rfl), (Nat.le_of_ble_eq_true rfl)⟩
theorem sX_running_x1 {h : zH} {σ : Nat → Nat} {cnt : Nat} {t : Int → Int} {L : Nat} {S : Nat → Nat × zF × Int × Int} (hS : CS h σ cnt t L S) {n : Nat} {F : zF} {ad dl : Int} {ar q : Nat → Nat} (hC : CT h (oTr (σ 4)) n F ad dl ar q) {dep : Nat → Nat} {B : Int} (hw : WF n F dep B) (hB : 24 * (60 + B) ≤ 1000000000) {len st sl dp : Int → Int} (hl : IsLen n F len) (ht : IsTm n F len st sl dp) (hP : PLN h n F len st sl dp ar q) {w : Int} (h2 : ¬ (0 ≤ w)) : Ev M_X6_running 0 [(0, zr (some 0)), (1, zi w)] [] h (0, 0) (.inr 1, h) := by
  have hM := hS.1
  have hTr := hS.2.2.2.1.2
  have hcn := hS.2.2.2.2.1.1
  have hc4 := hS.2.2.2.2.1.2
  have hK : ∀ j, j < 5 → h.1[oTr (σ j)]? = some (2, 0) := fun j hj => zk_at hM.1 (KK_T _ (hS.2.2.1.1 j hj))
  have hs5 : ∀ j, j < 5 → oTr (σ j) + 51 ≤ 260 := fun j hj => by have := hS.2.2.1.1 j hj; unfold oTr; omega
  refine Ev.iload_n (pc := 0) (n := (0, 0)) (i := 1) dX6_running_0 rfl rfl ?_
  exact Ev.callSX (pc := 1) (n := (0, 0)) (as := [zi w]) (st := []) (s_requireNotNegative_no h (v := w) h2) dX6_running_1 ok_X6_requireNotNegative (lk_X6_84 rfl) ⟨(Nat.le_of_ble_eq_true rfl), (Nat.le_of_ble_eq_true rfl)⟩ rfl (Nat.le_of_ble_eq_true rfl) (Nat.le_of_ble_eq_true rfl) ⟨(Nat.le_of_ble_eq_true rfl), (Nat.le_of_ble_eq_true rfl)⟩ rfl
theorem sX_running {h : zH} {σ : Nat → Nat} {cnt : Nat} {t : Int → Int} {L : Nat} {S : Nat → Nat × zF × Int × Int} (hS : CS h σ cnt t L S) {n : Nat} {F : zF} {ad dl : Int} {ar q : Nat → Nat} (hC : CT h (oTr (σ 4)) n F ad dl ar q) {dep : Nat → Nat} {B : Int} (hw : WF n F dep B) (hB : 24 * (60 + B) ≤ 1000000000) {len st sl dp : Int → Int} (hl : IsLen n F len) (ht : IsTm n F len st sl dp) (hP : PLN h n F len st sl dp ar q) {w : Int} (h2 : 0 ≤ w) : Ev M_X6_running 0 [(0, zr (some 0)), (1, zi w)] [] h (0, 0) (.inl (some (zi (mrun n F len st w))), h) := by
  have hM := hS.1
  have hTr := hS.2.2.2.1.2
  have hcn := hS.2.2.2.2.1.1
  have hc4 := hS.2.2.2.2.1.2
  have hK : ∀ j, j < 5 → h.1[oTr (σ j)]? = some (2, 0) := fun j hj => zk_at hM.1 (KK_T _ (hS.2.2.1.1 j hj))
  have hs5 : ∀ j, j < 5 → oTr (σ j) + 51 ≤ 260 := fun j hj => by have := hS.2.2.1.1 j hj; unfold oTr; omega
  refine Ev.iload_n (pc := 0) (n := (0, 0)) (i := 1) dX6_running_0 rfl rfl ?_
  refine Ev.callS (pc := 1) (n := (0, 0)) (as := [zi w]) (st := []) (s_requireNotNegative h (v := w) h2) dX6_running_1 ok_X6_requireNotNegative (lk_X6_84 rfl) ⟨(Nat.le_of_ble_eq_true rfl), (Nat.le_of_ble_eq_true rfl)⟩ rfl (Nat.le_of_ble_eq_true rfl) (Nat.le_of_ble_eq_true rfl) ⟨(Nat.le_of_ble_eq_true rfl), (Nat.le_of_ble_eq_true rfl)⟩ ?_
  refine Ev.aload_n (pc := 4) (n := (1, 6)) (i := 0) dX6_running_4 rfl rfl ?_
  refine Ev.gR (pc := 5) (n := (1, 6)) (r := (some (oTr (σ 4)))) dX6_running_5 fl_X6_27 (zk_at hM.1 rfl) rfl hTr ?_
  refine Ev.iload_n (pc := 8) (n := (1, 6)) (i := 1) dX6_running_8 rfl rfl ?_
  refine Ev.callV (pc := 9) (n := (1, 6)) (ob := (oTr (σ 4))) (as := [zi w]) (st := []) (s_countRunningC hC hw hB hl ht hP (t := w)) dX6_running_9 ok_X5_countRunning (lk_X6_94 rfl) ⟨(Nat.le_of_ble_eq_true rfl), (Nat.le_of_ble_eq_true rfl)⟩ (hK 4 (by decide)) ⟨by decide, rfl⟩ rfl (Nat.le_of_ble_eq_true rfl) (Nat.le_of_ble_eq_true rfl) ⟨(Nat.le_of_ble_eq_true rfl), (Nat.le_of_ble_eq_true rfl)⟩ ?_
  exact Ev.iret dX6_running_12 rfl ⟨(Nat.le_of_ble_eq_true rfl), (Nat.le_of_ble_eq_true rfl)⟩
theorem sX_whole_x1 {h : zH} {σ : Nat → Nat} {cnt : Nat} {t : Int → Int} {L : Nat} {S : Nat → Nat × zF × Int × Int} (hS : CS h σ cnt t L S) {n : Nat} {F : zF} {ad dl : Int} {ar q : Nat → Nat} (hC : CT h (oTr (σ 4)) n F ad dl ar q) {dep : Nat → Nat} {B : Int} (hw : WF n F dep B) (hB : 24 * (60 + B) ≤ 1000000000) {len st sl dp : Int → Int} (hl : IsLen n F len) (ht : IsTm n F len st sl dp) (hP : PLN h n F len st sl dp ar q) {w : Int} (h2 : ¬ (0 ≤ w ∧ w ≤ 11)) : Ev M_X6_whole 0 [(0, zr (some 0)), (1, zi w)] [] h (0, 0) (.inr 1, h) := by
  have hM := hS.1
  have hTr := hS.2.2.2.1.2
  have hcn := hS.2.2.2.2.1.1
  have hc4 := hS.2.2.2.2.1.2
  have hK : ∀ j, j < 5 → h.1[oTr (σ j)]? = some (2, 0) := fun j hj => zk_at hM.1 (KK_T _ (hS.2.2.1.1 j hj))
  have hs5 : ∀ j, j < 5 → oTr (σ j) + 51 ≤ 260 := fun j hj => by have := hS.2.2.1.1 j hj; unfold oTr; omega
  refine Ev.iload_n (pc := 0) (n := (0, 0)) (i := 1) dX6_whole_0 rfl rfl ?_
  refine Ev.iconst (pc := 1) (n := (0, 0)) dX6_whole_1 ?_
  refine Ev.bipush (pc := 2) (n := (0, 0)) dX6_whole_2 ?_
  exact Ev.callSX (pc := 4) (n := (0, 0)) (as := [zi w, zi 0, zi 11]) (st := []) (s_requireRange_no h (v := w) (lo := 0) (hi := 11) h2) dX6_whole_4 ok_X6_requireRange (lk_X6_66 rfl) ⟨(Nat.le_of_ble_eq_true rfl), (Nat.le_of_ble_eq_true rfl)⟩ rfl (Nat.le_of_ble_eq_true rfl) (Nat.le_of_ble_eq_true rfl) ⟨(Nat.le_of_ble_eq_true rfl), (Nat.le_of_ble_eq_true rfl)⟩ rfl
theorem sX_whole {h : zH} {σ : Nat → Nat} {cnt : Nat} {t : Int → Int} {L : Nat} {S : Nat → Nat × zF × Int × Int} (hS : CS h σ cnt t L S) {n : Nat} {F : zF} {ad dl : Int} {ar q : Nat → Nat} (hC : CT h (oTr (σ 4)) n F ad dl ar q) {dep : Nat → Nat} {B : Int} (hw : WF n F dep B) (hB : 24 * (60 + B) ≤ 1000000000) {len st sl dp : Int → Int} (hl : IsLen n F len) (ht : IsTm n F len st sl dp) (hP : PLN h n F len st sl dp ar q) (hd : 0 ≤ dl ∧ dl ≤ 999) {mm : Nat} {A : Nat → Nat} (hcr : CritTo F st sl n mm A) {w : Int} (h2 : 0 ≤ w ∧ w ≤ 11) : Ev M_X6_whole 0 [(0, zr (some 0)), (1, zi w)] [] h (0, 0) (.inl (some (zi (mwh n F len st sl dl ad mm (L : Int) w))), h) := by
  have hM := hS.1
  have hTr := hS.2.2.2.1.2
  have hcn := hS.2.2.2.2.1.1
  have hc4 := hS.2.2.2.2.1.2
  have hK : ∀ j, j < 5 → h.1[oTr (σ j)]? = some (2, 0) := fun j hj => zk_at hM.1 (KK_T _ (hS.2.2.1.1 j hj))
  have hs5 : ∀ j, j < 5 → oTr (σ j) + 51 ≤ 260 := fun j hj => by have := hS.2.2.1.1 j hj; unfold oTr; omega
  refine Ev.iload_n (pc := 0) (n := (0, 0)) (i := 1) dX6_whole_0 rfl rfl ?_
  refine Ev.iconst (pc := 1) (n := (0, 0)) dX6_whole_1 ?_
  refine Ev.bipush (pc := 2) (n := (0, 0)) dX6_whole_2 ?_
  refine Ev.callS (pc := 4) (n := (0, 0)) (as := [zi w, zi 0, zi 11]) (st := []) (s_requireRange h (v := w) (lo := 0) (hi := 11) h2) dX6_whole_4 ok_X6_requireRange (lk_X6_66 rfl) ⟨(Nat.le_of_ble_eq_true rfl), (Nat.le_of_ble_eq_true rfl)⟩ rfl (Nat.le_of_ble_eq_true rfl) (Nat.le_of_ble_eq_true rfl) ⟨(Nat.le_of_ble_eq_true rfl), (Nat.le_of_ble_eq_true rfl)⟩ ?_
  refine Ev.aload_n (pc := 7) (n := (1, 6)) (i := 0) dX6_whole_7 rfl rfl ?_
  refine Ev.iload_n (pc := 8) (n := (1, 6)) (i := 1) dX6_whole_8 rfl rfl ?_
  refine Ev.callV (pc := 9) (n := (1, 6)) (ob := 0) (as := [zi w]) (st := []) (s_wholeValueC hS hC hw hB hl ht hP hd hcr h2) dX6_whole_9 ok_X6_wholeValue (lk_X6_97 rfl) ⟨(Nat.le_of_ble_eq_true rfl), (Nat.le_of_ble_eq_true rfl)⟩ (zk_at hM.1 rfl) ⟨by decide, rfl⟩ rfl (Nat.le_of_ble_eq_true rfl) (Nat.le_of_ble_eq_true rfl) ⟨(Nat.le_of_ble_eq_true rfl), (Nat.le_of_ble_eq_true rfl)⟩ ?_
  exact Ev.iret dX6_whole_12 rfl ⟨(Nat.le_of_ble_eq_true rfl), (Nat.le_of_ble_eq_true rfl)⟩
theorem sX_endWith_x0 {h : zH} {σ : Nat → Nat} {cnt : Nat} {t : Int → Int} {L : Nat} {S : Nat → Nat × zF × Int × Int} (hS : CS h σ cnt t L S) {n : Nat} {F : zF} {ad dl : Int} {ar q : Nat → Nat} (hC : CT h (oTr (σ 4)) n F ad dl ar q) {dep : Nat → Nat} {B : Int} (hw : WF n F dep B) (hB : 24 * (60 + B) ≤ 1000000000) {len st sl dp : Int → Int} (hl : IsLen n F len) (ht : IsTm n F len st sl dp) (hP : PLN h n F len st sl dp ar q) {x w : Int} (hz : zpos n F x = -1) : Ev M_X6_endWith 0 [(0, zr (some 0)), (1, zi x), (2, zi w)] [] h (0, 0) (.inr 0, h) := by
  have hM := hS.1
  have hTr := hS.2.2.2.1.2
  have hcn := hS.2.2.2.2.1.1
  have hc4 := hS.2.2.2.2.1.2
  have hK : ∀ j, j < 5 → h.1[oTr (σ j)]? = some (2, 0) := fun j hj => zk_at hM.1 (KK_T _ (hS.2.2.1.1 j hj))
  have hs5 : ∀ j, j < 5 → oTr (σ j) + 51 ≤ 260 := fun j hj => by have := hS.2.2.1.1 j hj; unfold oTr; omega
  refine Ev.aload_n (pc := 0) (n := (0, 0)) (i := 0) dX6_endWith_0 rfl rfl ?_
  refine Ev.iload_n (pc := 1) (n := (0, 0)) (i := 1) dX6_endWith_1 rfl rfl ?_
  exact Ev.callVX (pc := 2) (n := (0, 0)) (ob := 0) (as := [zi x]) (st := []) (s_existing_no hM hTr hC (x := x) hz) dX6_endWith_2 ok_X6_existing (lk_X6_62 rfl) ⟨(Nat.le_of_ble_eq_true rfl), (Nat.le_of_ble_eq_true rfl)⟩ (zk_at hM.1 rfl) ⟨by decide, rfl⟩ rfl (Nat.le_of_ble_eq_true rfl) (Nat.le_of_ble_eq_true rfl) ⟨(Nat.le_of_ble_eq_true rfl), (Nat.le_of_ble_eq_true rfl)⟩ rfl
theorem sX_endWith_x1 {h : zH} {σ : Nat → Nat} {cnt : Nat} {t : Int → Int} {L : Nat} {S : Nat → Nat × zF × Int × Int} (hS : CS h σ cnt t L S) {n : Nat} {F : zF} {ad dl : Int} {ar q : Nat → Nat} (hC : CT h (oTr (σ 4)) n F ad dl ar q) {dep : Nat → Nat} {B : Int} (hw : WF n F dep B) (hB : 24 * (60 + B) ≤ 1000000000) {len st sl dp : Int → Int} (hl : IsLen n F len) (ht : IsTm n F len st sl dp) (hP : PLN h n F len st sl dp ar q) {x w : Int} {k : Nat} (hz : zpos n F x = k) (h2 : ¬ (0 ≤ w ∧ w ≤ 60)) : Ev M_X6_endWith 0 [(0, zr (some 0)), (1, zi x), (2, zi w)] [] h (0, 0) (.inr 1, h) := by
  have hM := hS.1
  have hTr := hS.2.2.2.1.2
  have hcn := hS.2.2.2.2.1.1
  have hc4 := hS.2.2.2.2.1.2
  have hK : ∀ j, j < 5 → h.1[oTr (σ j)]? = some (2, 0) := fun j hj => zk_at hM.1 (KK_T _ (hS.2.2.1.1 j hj))
  have hs5 : ∀ j, j < 5 → oTr (σ j) + 51 ≤ 260 := fun j hj => by have := hS.2.2.1.1 j hj; unfold oTr; omega
  obtain ⟨j, hj, ej, k1⟩ := s_existing hM hTr hC hw hz
  subst ej
  have ez : F (q j) 0 = x := (zpos_num hz).2
  have b0 := (hw.2.2.2.1 (q j) (hC.qlt hj)).1
  refine Ev.aload_n (pc := 0) (n := (0, 0)) (i := 0) dX6_endWith_0 rfl rfl ?_
  refine Ev.iload_n (pc := 1) (n := (0, 0)) (i := 1) dX6_endWith_1 rfl rfl ?_
  refine Ev.callV (pc := 2) (n := (0, 0)) (ob := 0) (as := [zi x]) (st := []) (k1) dX6_endWith_2 ok_X6_existing (lk_X6_62 rfl) ⟨(Nat.le_of_ble_eq_true rfl), (Nat.le_of_ble_eq_true rfl)⟩ (zk_at hM.1 rfl) ⟨by decide, rfl⟩ rfl (Nat.le_of_ble_eq_true rfl) (Nat.le_of_ble_eq_true rfl) ⟨(Nat.le_of_ble_eq_true rfl), (Nat.le_of_ble_eq_true rfl)⟩ ?_
  refine Ev.astore_n (pc := 5) (n := (1, 6)) (i := 3) (L' := [(3, zr (some (ar j))), (0, zr (some 0)), (1, zi x), (2, zi w)]) dX6_endWith_5 rfl (Nat.le_of_ble_eq_true rfl) rfl ?_
  refine Ev.iload_n (pc := 6) (n := (1, 6)) (i := 2) dX6_endWith_6 rfl rfl ?_
  refine Ev.iconst (pc := 7) (n := (1, 6)) dX6_endWith_7 ?_
  refine Ev.bipush (pc := 8) (n := (1, 6)) dX6_endWith_8 ?_
  exact Ev.callSX (pc := 10) (n := (1, 6)) (as := [zi w, zi 0, zi 60]) (st := []) (s_requireRange_no h (v := w) (lo := 0) (hi := 60) h2) dX6_endWith_10 ok_X6_requireRange (lk_X6_66 rfl) ⟨(Nat.le_of_ble_eq_true rfl), (Nat.le_of_ble_eq_true rfl)⟩ rfl (Nat.le_of_ble_eq_true rfl) (Nat.le_of_ble_eq_true rfl) ⟨(Nat.le_of_ble_eq_true rfl), (Nat.le_of_ble_eq_true rfl)⟩ rfl
theorem sX_endWith_x2 {h : zH} {σ : Nat → Nat} {cnt : Nat} {t : Int → Int} {L : Nat} {S : Nat → Nat × zF × Int × Int} (hS : CS h σ cnt t L S) {n : Nat} {F : zF} {ad dl : Int} {ar q : Nat → Nat} (hC : CT h (oTr (σ 4)) n F ad dl ar q) {dep : Nat → Nat} {B : Int} (hw : WF n F dep B) (hB : 24 * (60 + B) ≤ 1000000000) {len st sl dp : Int → Int} (hl : IsLen n F len) (ht : IsTm n F len st sl dp) (hP : PLN h n F len st sl dp ar q) {x w : Int} {k : Nat} (hz : zpos n F x = k) (h2 : 0 ≤ w ∧ w ≤ 60) (h4 : F k 1 = 0) : Ev M_X6_endWith 0 [(0, zr (some 0)), (1, zi x), (2, zi w)] [] h (0, 0) (.inr 2, h) := by
  have hM := hS.1
  have hTr := hS.2.2.2.1.2
  have hcn := hS.2.2.2.2.1.1
  have hc4 := hS.2.2.2.2.1.2
  have hK : ∀ j, j < 5 → h.1[oTr (σ j)]? = some (2, 0) := fun j hj => zk_at hM.1 (KK_T _ (hS.2.2.1.1 j hj))
  have hs5 : ∀ j, j < 5 → oTr (σ j) + 51 ≤ 260 := fun j hj => by have := hS.2.2.1.1 j hj; unfold oTr; omega
  obtain ⟨j, hj, ej, k1⟩ := s_existing hM hTr hC hw hz
  subst ej
  have ez : F (q j) 0 = x := (zpos_num hz).2
  have b0 := (hw.2.2.2.1 (q j) (hC.qlt hj)).1
  refine Ev.aload_n (pc := 0) (n := (0, 0)) (i := 0) dX6_endWith_0 rfl rfl ?_
  refine Ev.iload_n (pc := 1) (n := (0, 0)) (i := 1) dX6_endWith_1 rfl rfl ?_
  refine Ev.callV (pc := 2) (n := (0, 0)) (ob := 0) (as := [zi x]) (st := []) (k1) dX6_endWith_2 ok_X6_existing (lk_X6_62 rfl) ⟨(Nat.le_of_ble_eq_true rfl), (Nat.le_of_ble_eq_true rfl)⟩ (zk_at hM.1 rfl) ⟨by decide, rfl⟩ rfl (Nat.le_of_ble_eq_true rfl) (Nat.le_of_ble_eq_true rfl) ⟨(Nat.le_of_ble_eq_true rfl), (Nat.le_of_ble_eq_true rfl)⟩ ?_
  refine Ev.astore_n (pc := 5) (n := (1, 6)) (i := 3) (L' := [(3, zr (some (ar j))), (0, zr (some 0)), (1, zi x), (2, zi w)]) dX6_endWith_5 rfl (Nat.le_of_ble_eq_true rfl) rfl ?_
  refine Ev.iload_n (pc := 6) (n := (1, 6)) (i := 2) dX6_endWith_6 rfl rfl ?_
  refine Ev.iconst (pc := 7) (n := (1, 6)) dX6_endWith_7 ?_
  refine Ev.bipush (pc := 8) (n := (1, 6)) dX6_endWith_8 ?_
  refine Ev.callS (pc := 10) (n := (1, 6)) (as := [zi w, zi 0, zi 60]) (st := []) (s_requireRange h (v := w) (lo := 0) (hi := 60) h2) dX6_endWith_10 ok_X6_requireRange (lk_X6_66 rfl) ⟨(Nat.le_of_ble_eq_true rfl), (Nat.le_of_ble_eq_true rfl)⟩ rfl (Nat.le_of_ble_eq_true rfl) (Nat.le_of_ble_eq_true rfl) ⟨(Nat.le_of_ble_eq_true rfl), (Nat.le_of_ble_eq_true rfl)⟩ ?_
  refine Ev.aload_n (pc := 13) (n := (2, 12)) (i := 3) dX6_endWith_13 rfl rfl ?_
  exact Ev.callSX (pc := 14) (n := (2, 12)) (as := [zr (some (ar j))]) (st := []) (s_requireTask_no hC hj h4) dX6_endWith_14 ok_X6_requireTask (lk_X6_100 rfl) ⟨(Nat.le_of_ble_eq_true rfl), (Nat.le_of_ble_eq_true rfl)⟩ rfl (Nat.le_of_ble_eq_true rfl) (Nat.le_of_ble_eq_true rfl) ⟨(Nat.le_of_ble_eq_true rfl), (Nat.le_of_ble_eq_true rfl)⟩ rfl
theorem sX_endWith {h : zH} {σ : Nat → Nat} {cnt : Nat} {t : Int → Int} {L : Nat} {S : Nat → Nat × zF × Int × Int} (hS : CS h σ cnt t L S) {n : Nat} {F : zF} {ad dl : Int} {ar q : Nat → Nat} (hC : CT h (oTr (σ 4)) n F ad dl ar q) {dep : Nat → Nat} {B : Int} (hw : WF n F dep B) (hB : 24 * (60 + B) ≤ 1000000000) {len st sl dp : Int → Int} (hl : IsLen n F len) (ht : IsTm n F len st sl dp) (hP : PLN h n F len st sl dp ar q) {x w : Int} {k : Nat} (hz : zpos n F x = k) (h2 : 0 ≤ w ∧ w ≤ 60) (h4 : F k 1 = 1) {B9 : Int} {dep9 : Nat → Nat} (hw9 : WF n (flast F k w) dep9 B9) (hB9 : 24 * (60 + B9) ≤ 1000000000) {len9 : Int → Int} (hl9 : IsLen n (flast F k w) len9) : Ev M_X6_endWith 0 [(0, zr (some 0)), (1, zi x), (2, zi w)] [] h (0, 0) (.inl (some (zi (len9 0))), h) := by
  have hM := hS.1
  have hTr := hS.2.2.2.1.2
  have hcn := hS.2.2.2.2.1.1
  have hc4 := hS.2.2.2.2.1.2
  have hK : ∀ j, j < 5 → h.1[oTr (σ j)]? = some (2, 0) := fun j hj => zk_at hM.1 (KK_T _ (hS.2.2.1.1 j hj))
  have hs5 : ∀ j, j < 5 → oTr (σ j) + 51 ≤ 260 := fun j hj => by have := hS.2.2.1.1 j hj; unfold oTr; omega
  obtain ⟨j, hj, ej, k1⟩ := s_existing hM hTr hC hw hz
  subst ej
  have ez : F (q j) 0 = x := (zpos_num hz).2
  have b0 := (hw.2.2.2.1 (q j) (hC.qlt hj)).1
  have b9 := hw.2.2.2.1 (q j) (hC.qlt hj)
  refine Ev.aload_n (pc := 0) (n := (0, 0)) (i := 0) dX6_endWith_0 rfl rfl ?_
  refine Ev.iload_n (pc := 1) (n := (0, 0)) (i := 1) dX6_endWith_1 rfl rfl ?_
  refine Ev.callV (pc := 2) (n := (0, 0)) (ob := 0) (as := [zi x]) (st := []) (k1) dX6_endWith_2 ok_X6_existing (lk_X6_62 rfl) ⟨(Nat.le_of_ble_eq_true rfl), (Nat.le_of_ble_eq_true rfl)⟩ (zk_at hM.1 rfl) ⟨by decide, rfl⟩ rfl (Nat.le_of_ble_eq_true rfl) (Nat.le_of_ble_eq_true rfl) ⟨(Nat.le_of_ble_eq_true rfl), (Nat.le_of_ble_eq_true rfl)⟩ ?_
  refine Ev.astore_n (pc := 5) (n := (1, 6)) (i := 3) (L' := [(3, zr (some (ar j))), (0, zr (some 0)), (1, zi x), (2, zi w)]) dX6_endWith_5 rfl (Nat.le_of_ble_eq_true rfl) rfl ?_
  refine Ev.iload_n (pc := 6) (n := (1, 6)) (i := 2) dX6_endWith_6 rfl rfl ?_
  refine Ev.iconst (pc := 7) (n := (1, 6)) dX6_endWith_7 ?_
  refine Ev.bipush (pc := 8) (n := (1, 6)) dX6_endWith_8 ?_
  refine Ev.callS (pc := 10) (n := (1, 6)) (as := [zi w, zi 0, zi 60]) (st := []) (s_requireRange h (v := w) (lo := 0) (hi := 60) h2) dX6_endWith_10 ok_X6_requireRange (lk_X6_66 rfl) ⟨(Nat.le_of_ble_eq_true rfl), (Nat.le_of_ble_eq_true rfl)⟩ rfl (Nat.le_of_ble_eq_true rfl) (Nat.le_of_ble_eq_true rfl) ⟨(Nat.le_of_ble_eq_true rfl), (Nat.le_of_ble_eq_true rfl)⟩ ?_
  refine Ev.aload_n (pc := 13) (n := (2, 12)) (i := 3) dX6_endWith_13 rfl rfl ?_
  refine Ev.callS (pc := 14) (n := (2, 12)) (as := [zr (some (ar j))]) (st := []) (s_requireTask hC hj h4) dX6_endWith_14 ok_X6_requireTask (lk_X6_100 rfl) ⟨(Nat.le_of_ble_eq_true rfl), (Nat.le_of_ble_eq_true rfl)⟩ rfl (Nat.le_of_ble_eq_true rfl) (Nat.le_of_ble_eq_true rfl) ⟨(Nat.le_of_ble_eq_true rfl), (Nat.le_of_ble_eq_true rfl)⟩ ?_
  refine Ev.aload_n (pc := 17) (n := (3, 18)) (i := 3) dX6_endWith_17 rfl rfl ?_
  refine Ev.aload_n (pc := 18) (n := (3, 18)) (i := 3) dX6_endWith_18 rfl rfl ?_
  refine Ev.iload_n (pc := 19) (n := (3, 18)) (i := 2) dX6_endWith_19 rfl rfl ?_
  refine Ev.callV (pc := 20) (n := (3, 18)) (ob := (ar j)) (as := [zi w]) (st := [zr (some (ar j))]) (s_lengthWith (hC.nd hj) (hC.c4 hj) (hC.c5 hj) (d := w) ⟨b9.2.1, by have := b9.2.2.1; omega, by omega⟩) dX6_endWith_20 ok_X3_lengthWith (lk_X6_103 rfl) ⟨(Nat.le_of_ble_eq_true rfl), (Nat.le_of_ble_eq_true rfl)⟩ (hC.nd hj).1 ⟨by decide, rfl⟩ rfl (Nat.le_of_ble_eq_true rfl) (Nat.le_of_ble_eq_true rfl) ⟨(Nat.le_of_ble_eq_true rfl), (Nat.le_of_ble_eq_true rfl)⟩ ?_
  refine Ev.callV (pc := 23) (n := (3, 18)) (ob := (ar j)) (as := [zi (w + mres (F (q j) 5) (F (q j) 6) w)]) (st := []) (s_endIfLength hC hw hB hl ht hP (hC.qlt hj) h4 (flast_oth F (q j) w) hw9 hB9 hl9 hj rfl (flast_len (hC.qlt hj) h4 hl9).symm) dX6_endWith_23 ok_X3_endIfLength (lk_X6_106 rfl) ⟨(Nat.le_of_ble_eq_true rfl), (Nat.le_of_ble_eq_true rfl)⟩ (hC.nd hj).1 ⟨by decide, rfl⟩ rfl (Nat.le_of_ble_eq_true rfl) (Nat.le_of_ble_eq_true rfl) ⟨(Nat.le_of_ble_eq_true rfl), (Nat.le_of_ble_eq_true rfl)⟩ ?_
  exact Ev.iret dX6_endWith_26 rfl ⟨(Nat.le_of_ble_eq_true rfl), (Nat.le_of_ble_eq_true rfl)⟩
theorem sX_growsTo_x0 {h : zH} {σ : Nat → Nat} {cnt : Nat} {t : Int → Int} {L : Nat} {S : Nat → Nat × zF × Int × Int} (hS : CS h σ cnt t L S) {n : Nat} {F : zF} {ad dl : Int} {ar q : Nat → Nat} (hC : CT h (oTr (σ 4)) n F ad dl ar q) {dep : Nat → Nat} {B : Int} (hw : WF n F dep B) (hB : 24 * (60 + B) ≤ 1000000000) {len st sl dp : Int → Int} (hl : IsLen n F len) (ht : IsTm n F len st sl dp) (hP : PLN h n F len st sl dp ar q) {x : Int} (hz : zpos n F x = -1) : Ev M_X6_growsTo 0 [(0, zr (some 0)), (1, zi x)] [] h (0, 0) (.inr 0, h) := by
  have hM := hS.1
  have hTr := hS.2.2.2.1.2
  have hcn := hS.2.2.2.2.1.1
  have hc4 := hS.2.2.2.2.1.2
  have hK : ∀ j, j < 5 → h.1[oTr (σ j)]? = some (2, 0) := fun j hj => zk_at hM.1 (KK_T _ (hS.2.2.1.1 j hj))
  have hs5 : ∀ j, j < 5 → oTr (σ j) + 51 ≤ 260 := fun j hj => by have := hS.2.2.1.1 j hj; unfold oTr; omega
  refine Ev.aload_n (pc := 0) (n := (0, 0)) (i := 0) dX6_growsTo_0 rfl rfl ?_
  refine Ev.iload_n (pc := 1) (n := (0, 0)) (i := 1) dX6_growsTo_1 rfl rfl ?_
  exact Ev.callVX (pc := 2) (n := (0, 0)) (ob := 0) (as := [zi x]) (st := []) (s_existing_no hM hTr hC (x := x) hz) dX6_growsTo_2 ok_X6_existing (lk_X6_62 rfl) ⟨(Nat.le_of_ble_eq_true rfl), (Nat.le_of_ble_eq_true rfl)⟩ (zk_at hM.1 rfl) ⟨by decide, rfl⟩ rfl (Nat.le_of_ble_eq_true rfl) (Nat.le_of_ble_eq_true rfl) ⟨(Nat.le_of_ble_eq_true rfl), (Nat.le_of_ble_eq_true rfl)⟩ rfl
theorem sX_growsTo_x2 {h : zH} {σ : Nat → Nat} {cnt : Nat} {t : Int → Int} {L : Nat} {S : Nat → Nat × zF × Int × Int} (hS : CS h σ cnt t L S) {n : Nat} {F : zF} {ad dl : Int} {ar q : Nat → Nat} (hC : CT h (oTr (σ 4)) n F ad dl ar q) {dep : Nat → Nat} {B : Int} (hw : WF n F dep B) (hB : 24 * (60 + B) ≤ 1000000000) {len st sl dp : Int → Int} (hl : IsLen n F len) (ht : IsTm n F len st sl dp) (hP : PLN h n F len st sl dp ar q) {x : Int} {k : Nat} (hz : zpos n F x = k) (h4 : F k 1 = 0) : Ev M_X6_growsTo 0 [(0, zr (some 0)), (1, zi x)] [] h (0, 0) (.inr 2, h) := by
  have hM := hS.1
  have hTr := hS.2.2.2.1.2
  have hcn := hS.2.2.2.2.1.1
  have hc4 := hS.2.2.2.2.1.2
  have hK : ∀ j, j < 5 → h.1[oTr (σ j)]? = some (2, 0) := fun j hj => zk_at hM.1 (KK_T _ (hS.2.2.1.1 j hj))
  have hs5 : ∀ j, j < 5 → oTr (σ j) + 51 ≤ 260 := fun j hj => by have := hS.2.2.1.1 j hj; unfold oTr; omega
  obtain ⟨j, hj, ej, k1⟩ := s_existing hM hTr hC hw hz
  subst ej
  have ez : F (q j) 0 = x := (zpos_num hz).2
  have b0 := (hw.2.2.2.1 (q j) (hC.qlt hj)).1
  refine Ev.aload_n (pc := 0) (n := (0, 0)) (i := 0) dX6_growsTo_0 rfl rfl ?_
  refine Ev.iload_n (pc := 1) (n := (0, 0)) (i := 1) dX6_growsTo_1 rfl rfl ?_
  refine Ev.callV (pc := 2) (n := (0, 0)) (ob := 0) (as := [zi x]) (st := []) (k1) dX6_growsTo_2 ok_X6_existing (lk_X6_62 rfl) ⟨(Nat.le_of_ble_eq_true rfl), (Nat.le_of_ble_eq_true rfl)⟩ (zk_at hM.1 rfl) ⟨by decide, rfl⟩ rfl (Nat.le_of_ble_eq_true rfl) (Nat.le_of_ble_eq_true rfl) ⟨(Nat.le_of_ble_eq_true rfl), (Nat.le_of_ble_eq_true rfl)⟩ ?_
  refine Ev.astore_n (pc := 5) (n := (1, 6)) (i := 2) (L' := [(2, zr (some (ar j))), (0, zr (some 0)), (1, zi x)]) dX6_growsTo_5 rfl (Nat.le_of_ble_eq_true rfl) rfl ?_
  refine Ev.aload_n (pc := 6) (n := (1, 6)) (i := 2) dX6_growsTo_6 rfl rfl ?_
  exact Ev.callSX (pc := 7) (n := (1, 6)) (as := [zr (some (ar j))]) (st := []) (s_requireTask_no hC hj h4) dX6_growsTo_7 ok_X6_requireTask (lk_X6_100 rfl) ⟨(Nat.le_of_ble_eq_true rfl), (Nat.le_of_ble_eq_true rfl)⟩ rfl (Nat.le_of_ble_eq_true rfl) (Nat.le_of_ble_eq_true rfl) ⟨(Nat.le_of_ble_eq_true rfl), (Nat.le_of_ble_eq_true rfl)⟩ rfl
theorem sX_growsTo {h : zH} {σ : Nat → Nat} {cnt : Nat} {t : Int → Int} {L : Nat} {S : Nat → Nat × zF × Int × Int} (hS : CS h σ cnt t L S) {n : Nat} {F : zF} {ad dl : Int} {ar q : Nat → Nat} (hC : CT h (oTr (σ 4)) n F ad dl ar q) {dep : Nat → Nat} {B : Int} (hw : WF n F dep B) (hB : 24 * (60 + B) ≤ 1000000000) {len st sl dp : Int → Int} (hl : IsLen n F len) (ht : IsTm n F len st sl dp) (hP : PLN h n F len st sl dp ar q) {x : Int} {k : Nat} (hz : zpos n F x = k) (h4 : F k 1 = 1) {E : Int → Int} {dep9 : Nat → Nat} {B9 : Int} (hB9 : 24 * (60 + B9) ≤ 1000000000) (hE : IsEnds n F k dep9 B9 E) {g : Int} (hg : F k 5 ≤ g ∧ g ≤ 60) (hg9 : E g ≤ len 0 ∧ ∀ e : Int, g < e → e ≤ 60 → len 0 < E e) : Ev M_X6_growsTo 0 [(0, zr (some 0)), (1, zi x)] [] h (0, 0) (.inl (some (zi (g))), h) := by
  have hM := hS.1
  have hTr := hS.2.2.2.1.2
  have hcn := hS.2.2.2.2.1.1
  have hc4 := hS.2.2.2.2.1.2
  have hK : ∀ j, j < 5 → h.1[oTr (σ j)]? = some (2, 0) := fun j hj => zk_at hM.1 (KK_T _ (hS.2.2.1.1 j hj))
  have hs5 : ∀ j, j < 5 → oTr (σ j) + 51 ≤ 260 := fun j hj => by have := hS.2.2.1.1 j hj; unfold oTr; omega
  obtain ⟨j, hj, ej, k1⟩ := s_existing hM hTr hC hw hz
  subst ej
  have ez : F (q j) 0 = x := (zpos_num hz).2
  have b0 := (hw.2.2.2.1 (q j) (hC.qlt hj)).1
  refine Ev.aload_n (pc := 0) (n := (0, 0)) (i := 0) dX6_growsTo_0 rfl rfl ?_
  refine Ev.iload_n (pc := 1) (n := (0, 0)) (i := 1) dX6_growsTo_1 rfl rfl ?_
  refine Ev.callV (pc := 2) (n := (0, 0)) (ob := 0) (as := [zi x]) (st := []) (k1) dX6_growsTo_2 ok_X6_existing (lk_X6_62 rfl) ⟨(Nat.le_of_ble_eq_true rfl), (Nat.le_of_ble_eq_true rfl)⟩ (zk_at hM.1 rfl) ⟨by decide, rfl⟩ rfl (Nat.le_of_ble_eq_true rfl) (Nat.le_of_ble_eq_true rfl) ⟨(Nat.le_of_ble_eq_true rfl), (Nat.le_of_ble_eq_true rfl)⟩ ?_
  refine Ev.astore_n (pc := 5) (n := (1, 6)) (i := 2) (L' := [(2, zr (some (ar j))), (0, zr (some 0)), (1, zi x)]) dX6_growsTo_5 rfl (Nat.le_of_ble_eq_true rfl) rfl ?_
  refine Ev.aload_n (pc := 6) (n := (1, 6)) (i := 2) dX6_growsTo_6 rfl rfl ?_
  refine Ev.callS (pc := 7) (n := (1, 6)) (as := [zr (some (ar j))]) (st := []) (s_requireTask hC hj h4) dX6_growsTo_7 ok_X6_requireTask (lk_X6_100 rfl) ⟨(Nat.le_of_ble_eq_true rfl), (Nat.le_of_ble_eq_true rfl)⟩ rfl (Nat.le_of_ble_eq_true rfl) (Nat.le_of_ble_eq_true rfl) ⟨(Nat.le_of_ble_eq_true rfl), (Nat.le_of_ble_eq_true rfl)⟩ ?_
  refine Ev.aload_n (pc := 10) (n := (2, 12)) (i := 0) dX6_growsTo_10 rfl rfl ?_
  refine Ev.gR (pc := 11) (n := (2, 12)) (r := (some (oTr (σ 4)))) dX6_growsTo_11 fl_X6_27 (zk_at hM.1 rfl) rfl hTr ?_
  refine Ev.aload_n (pc := 14) (n := (2, 12)) (i := 2) dX6_growsTo_14 rfl rfl ?_
  refine Ev.callV (pc := 15) (n := (2, 12)) (ob := (oTr (σ 4))) (as := [zr (some (ar j))]) (st := []) (s_greatest hC hw hB hl ht hP (hC.qlt hj) h4 hB9 hE hj rfl hg hg9) dX6_growsTo_15 ok_X5_greatestDuration (lk_X6_109 rfl) ⟨(Nat.le_of_ble_eq_true rfl), (Nat.le_of_ble_eq_true rfl)⟩ (hK 4 (by decide)) ⟨by decide, rfl⟩ rfl (Nat.le_of_ble_eq_true rfl) (Nat.le_of_ble_eq_true rfl) ⟨(Nat.le_of_ble_eq_true rfl), (Nat.le_of_ble_eq_true rfl)⟩ ?_
  exact Ev.iret dX6_growsTo_18 rfl ⟨(Nat.le_of_ble_eq_true rfl), (Nat.le_of_ble_eq_true rfl)⟩
theorem sX_bestCut {h : zH} {σ : Nat → Nat} {cnt : Nat} {t : Int → Int} {L : Nat} {S : Nat → Nat × zF × Int × Int} (hS : CS h σ cnt t L S) {n : Nat} {F : zF} {ad dl : Int} {ar q : Nat → Nat} (hC : CT h (oTr (σ 4)) n F ad dl ar q) {dep : Nat → Nat} {B : Int} (hw : WF n F dep B) (hB : 24 * (60 + B) ≤ 1000000000) {len st sl dp : Int → Int} (hl : IsLen n F len) (ht : IsTm n F len st sl dp) (hP : PLN h n F len st sl dp ar q) {dep9 : Nat → Nat} {B9 : Int} (hB9 : 24 * (60 + B9) ≤ 1000000000) {C : Nat → Int} (hCs : IsCuts n F dep9 B9 C) {c : Int} (hc9 : IsCut n F C (len 0) 0 c) : Ev M_X6_bestCut 0 [(0, zr (some 0))] [] h (0, 0) (.inl (some (zi (c))), h) := by
  have hM := hS.1
  have hTr := hS.2.2.2.1.2
  have hcn := hS.2.2.2.2.1.1
  have hc4 := hS.2.2.2.2.1.2
  have hK : ∀ j, j < 5 → h.1[oTr (σ j)]? = some (2, 0) := fun j hj => zk_at hM.1 (KK_T _ (hS.2.2.1.1 j hj))
  have hs5 : ∀ j, j < 5 → oTr (σ j) + 51 ≤ 260 := fun j hj => by have := hS.2.2.1.1 j hj; unfold oTr; omega
  refine Ev.aload_n (pc := 0) (n := (0, 0)) (i := 0) dX6_bestCut_0 rfl rfl ?_
  refine Ev.gR (pc := 1) (n := (0, 0)) (r := (some (oTr (σ 4)))) dX6_bestCut_1 fl_X6_27 (zk_at hM.1 rfl) rfl hTr ?_
  refine Ev.callV (pc := 4) (n := (0, 0)) (ob := (oTr (σ 4))) (as := []) (st := []) (s_cutC hC hw hB hl ht hP hB9 hCs hc9) dX6_bestCut_4 ok_X5_cutNumber (lk_X6_113 rfl) ⟨(Nat.le_of_ble_eq_true rfl), (Nat.le_of_ble_eq_true rfl)⟩ (hK 4 (by decide)) ⟨by decide, rfl⟩ rfl (Nat.le_of_ble_eq_true rfl) (Nat.le_of_ble_eq_true rfl) ⟨(Nat.le_of_ble_eq_true rfl), (Nat.le_of_ble_eq_true rfl)⟩ ?_
  exact Ev.iret dX6_bestCut_7 rfl ⟨(Nat.le_of_ble_eq_true rfl), (Nat.le_of_ble_eq_true rfl)⟩
theorem sX_slackIf_x0 {h : zH} {σ : Nat → Nat} {cnt : Nat} {t : Int → Int} {L : Nat} {S : Nat → Nat × zF × Int × Int} (hS : CS h σ cnt t L S) {n : Nat} {F : zF} {ad dl : Int} {ar q : Nat → Nat} (hC : CT h (oTr (σ 4)) n F ad dl ar q) {dep : Nat → Nat} {B : Int} (hw : WF n F dep B) (hB : 24 * (60 + B) ≤ 1000000000) {len st sl dp : Int → Int} (hl : IsLen n F len) (ht : IsTm n F len st sl dp) (hP : PLN h n F len st sl dp ar q) {x y : Int} (hz : zpos n F x = -1) : Ev M_X6_slackIf 0 [(0, zr (some 0)), (1, zi x), (2, zi y)] [] h (0, 0) (.inr 0, h) := by
  have hM := hS.1
  have hTr := hS.2.2.2.1.2
  have hcn := hS.2.2.2.2.1.1
  have hc4 := hS.2.2.2.2.1.2
  have hK : ∀ j, j < 5 → h.1[oTr (σ j)]? = some (2, 0) := fun j hj => zk_at hM.1 (KK_T _ (hS.2.2.1.1 j hj))
  have hs5 : ∀ j, j < 5 → oTr (σ j) + 51 ≤ 260 := fun j hj => by have := hS.2.2.1.1 j hj; unfold oTr; omega
  refine Ev.aload_n (pc := 0) (n := (0, 0)) (i := 0) dX6_slackIf_0 rfl rfl ?_
  refine Ev.iload_n (pc := 1) (n := (0, 0)) (i := 1) dX6_slackIf_1 rfl rfl ?_
  exact Ev.callVX (pc := 2) (n := (0, 0)) (ob := 0) (as := [zi x]) (st := []) (s_existing_no hM hTr hC (x := x) hz) dX6_slackIf_2 ok_X6_existing (lk_X6_62 rfl) ⟨(Nat.le_of_ble_eq_true rfl), (Nat.le_of_ble_eq_true rfl)⟩ (zk_at hM.1 rfl) ⟨by decide, rfl⟩ rfl (Nat.le_of_ble_eq_true rfl) (Nat.le_of_ble_eq_true rfl) ⟨(Nat.le_of_ble_eq_true rfl), (Nat.le_of_ble_eq_true rfl)⟩ rfl
theorem sX_slackIf_y0 {h : zH} {σ : Nat → Nat} {cnt : Nat} {t : Int → Int} {L : Nat} {S : Nat → Nat × zF × Int × Int} (hS : CS h σ cnt t L S) {n : Nat} {F : zF} {ad dl : Int} {ar q : Nat → Nat} (hC : CT h (oTr (σ 4)) n F ad dl ar q) {dep : Nat → Nat} {B : Int} (hw : WF n F dep B) (hB : 24 * (60 + B) ≤ 1000000000) {len st sl dp : Int → Int} (hl : IsLen n F len) (ht : IsTm n F len st sl dp) (hP : PLN h n F len st sl dp ar q) {x y : Int} {k : Nat} (hz : zpos n F x = k) (hz2 : zpos n F y = -1) : Ev M_X6_slackIf 0 [(0, zr (some 0)), (1, zi x), (2, zi y)] [] h (0, 0) (.inr 0, h) := by
  have hM := hS.1
  have hTr := hS.2.2.2.1.2
  have hcn := hS.2.2.2.2.1.1
  have hc4 := hS.2.2.2.2.1.2
  have hK : ∀ j, j < 5 → h.1[oTr (σ j)]? = some (2, 0) := fun j hj => zk_at hM.1 (KK_T _ (hS.2.2.1.1 j hj))
  have hs5 : ∀ j, j < 5 → oTr (σ j) + 51 ≤ 260 := fun j hj => by have := hS.2.2.1.1 j hj; unfold oTr; omega
  obtain ⟨j, hj, ej, k1⟩ := s_existing hM hTr hC hw hz
  subst ej
  have ez : F (q j) 0 = x := (zpos_num hz).2
  have b0 := (hw.2.2.2.1 (q j) (hC.qlt hj)).1
  refine Ev.aload_n (pc := 0) (n := (0, 0)) (i := 0) dX6_slackIf_0 rfl rfl ?_
  refine Ev.iload_n (pc := 1) (n := (0, 0)) (i := 1) dX6_slackIf_1 rfl rfl ?_
  refine Ev.callV (pc := 2) (n := (0, 0)) (ob := 0) (as := [zi x]) (st := []) (k1) dX6_slackIf_2 ok_X6_existing (lk_X6_62 rfl) ⟨(Nat.le_of_ble_eq_true rfl), (Nat.le_of_ble_eq_true rfl)⟩ (zk_at hM.1 rfl) ⟨by decide, rfl⟩ rfl (Nat.le_of_ble_eq_true rfl) (Nat.le_of_ble_eq_true rfl) ⟨(Nat.le_of_ble_eq_true rfl), (Nat.le_of_ble_eq_true rfl)⟩ ?_
  refine Ev.astore_n (pc := 5) (n := (1, 6)) (i := 3) (L' := [(3, zr (some (ar j))), (0, zr (some 0)), (1, zi x), (2, zi y)]) dX6_slackIf_5 rfl (Nat.le_of_ble_eq_true rfl) rfl ?_
  refine Ev.aload_n (pc := 6) (n := (1, 6)) (i := 0) dX6_slackIf_6 rfl rfl ?_
  refine Ev.iload_n (pc := 7) (n := (1, 6)) (i := 2) dX6_slackIf_7 rfl rfl ?_
  exact Ev.callVX (pc := 8) (n := (1, 6)) (ob := 0) (as := [zi y]) (st := []) (s_existing_no hM hTr hC (x := y) hz2) dX6_slackIf_8 ok_X6_existing (lk_X6_62 rfl) ⟨(Nat.le_of_ble_eq_true rfl), (Nat.le_of_ble_eq_true rfl)⟩ (zk_at hM.1 rfl) ⟨by decide, rfl⟩ rfl (Nat.le_of_ble_eq_true rfl) (Nat.le_of_ble_eq_true rfl) ⟨(Nat.le_of_ble_eq_true rfl), (Nat.le_of_ble_eq_true rfl)⟩ rfl
theorem sX_reason_x0 {h : zH} {σ : Nat → Nat} {cnt : Nat} {t : Int → Int} {L : Nat} {S : Nat → Nat × zF × Int × Int} (hS : CS h σ cnt t L S) {n : Nat} {F : zF} {ad dl : Int} {ar q : Nat → Nat} (hC : CT h (oTr (σ 4)) n F ad dl ar q) {dep : Nat → Nat} {B : Int} (hw : WF n F dep B) (hB : 24 * (60 + B) ≤ 1000000000) {len st sl dp : Int → Int} (hl : IsLen n F len) (ht : IsTm n F len st sl dp) (hP : PLN h n F len st sl dp ar q) {x y : Int} (hz : zpos n F x = -1) : Ev M_X6_reason 0 [(0, zr (some 0)), (1, zi x), (2, zi y)] [] h (0, 0) (.inr 0, h) := by
  have hM := hS.1
  have hTr := hS.2.2.2.1.2
  have hcn := hS.2.2.2.2.1.1
  have hc4 := hS.2.2.2.2.1.2
  have hK : ∀ j, j < 5 → h.1[oTr (σ j)]? = some (2, 0) := fun j hj => zk_at hM.1 (KK_T _ (hS.2.2.1.1 j hj))
  have hs5 : ∀ j, j < 5 → oTr (σ j) + 51 ≤ 260 := fun j hj => by have := hS.2.2.1.1 j hj; unfold oTr; omega
  refine Ev.aload_n (pc := 0) (n := (0, 0)) (i := 0) dX6_reason_0 rfl rfl ?_
  refine Ev.iload_n (pc := 1) (n := (0, 0)) (i := 1) dX6_reason_1 rfl rfl ?_
  exact Ev.callVX (pc := 2) (n := (0, 0)) (ob := 0) (as := [zi x]) (st := []) (s_existing_no hM hTr hC (x := x) hz) dX6_reason_2 ok_X6_existing (lk_X6_62 rfl) ⟨(Nat.le_of_ble_eq_true rfl), (Nat.le_of_ble_eq_true rfl)⟩ (zk_at hM.1 rfl) ⟨by decide, rfl⟩ rfl (Nat.le_of_ble_eq_true rfl) (Nat.le_of_ble_eq_true rfl) ⟨(Nat.le_of_ble_eq_true rfl), (Nat.le_of_ble_eq_true rfl)⟩ rfl
theorem sX_reason_y0 {h : zH} {σ : Nat → Nat} {cnt : Nat} {t : Int → Int} {L : Nat} {S : Nat → Nat × zF × Int × Int} (hS : CS h σ cnt t L S) {n : Nat} {F : zF} {ad dl : Int} {ar q : Nat → Nat} (hC : CT h (oTr (σ 4)) n F ad dl ar q) {dep : Nat → Nat} {B : Int} (hw : WF n F dep B) (hB : 24 * (60 + B) ≤ 1000000000) {len st sl dp : Int → Int} (hl : IsLen n F len) (ht : IsTm n F len st sl dp) (hP : PLN h n F len st sl dp ar q) {x y : Int} {k : Nat} (hz : zpos n F x = k) (hz2 : zpos n F y = -1) : Ev M_X6_reason 0 [(0, zr (some 0)), (1, zi x), (2, zi y)] [] h (0, 0) (.inr 0, h) := by
  have hM := hS.1
  have hTr := hS.2.2.2.1.2
  have hcn := hS.2.2.2.2.1.1
  have hc4 := hS.2.2.2.2.1.2
  have hK : ∀ j, j < 5 → h.1[oTr (σ j)]? = some (2, 0) := fun j hj => zk_at hM.1 (KK_T _ (hS.2.2.1.1 j hj))
  have hs5 : ∀ j, j < 5 → oTr (σ j) + 51 ≤ 260 := fun j hj => by have := hS.2.2.1.1 j hj; unfold oTr; omega
  obtain ⟨j, hj, ej, k1⟩ := s_existing hM hTr hC hw hz
  subst ej
  have ez : F (q j) 0 = x := (zpos_num hz).2
  have b0 := (hw.2.2.2.1 (q j) (hC.qlt hj)).1
  refine Ev.aload_n (pc := 0) (n := (0, 0)) (i := 0) dX6_reason_0 rfl rfl ?_
  refine Ev.iload_n (pc := 1) (n := (0, 0)) (i := 1) dX6_reason_1 rfl rfl ?_
  refine Ev.callV (pc := 2) (n := (0, 0)) (ob := 0) (as := [zi x]) (st := []) (k1) dX6_reason_2 ok_X6_existing (lk_X6_62 rfl) ⟨(Nat.le_of_ble_eq_true rfl), (Nat.le_of_ble_eq_true rfl)⟩ (zk_at hM.1 rfl) ⟨by decide, rfl⟩ rfl (Nat.le_of_ble_eq_true rfl) (Nat.le_of_ble_eq_true rfl) ⟨(Nat.le_of_ble_eq_true rfl), (Nat.le_of_ble_eq_true rfl)⟩ ?_
  refine Ev.aload_n (pc := 5) (n := (1, 6)) (i := 0) dX6_reason_5 rfl rfl ?_
  refine Ev.iload_n (pc := 6) (n := (1, 6)) (i := 2) dX6_reason_6 rfl rfl ?_
  exact Ev.callVX (pc := 7) (n := (1, 6)) (ob := 0) (as := [zi y]) (st := [zr (some (ar j))]) (s_existing_no hM hTr hC (x := y) hz2) dX6_reason_7 ok_X6_existing (lk_X6_62 rfl) ⟨(Nat.le_of_ble_eq_true rfl), (Nat.le_of_ble_eq_true rfl)⟩ (zk_at hM.1 rfl) ⟨by decide, rfl⟩ rfl (Nat.le_of_ble_eq_true rfl) (Nat.le_of_ble_eq_true rfl) ⟨(Nat.le_of_ble_eq_true rfl), (Nat.le_of_ble_eq_true rfl)⟩ rfl
theorem sX_slackIf_x2 {h : zH} {σ : Nat → Nat} {cnt : Nat} {t : Int → Int} {L : Nat} {S : Nat → Nat × zF × Int × Int} (hS : CS h σ cnt t L S) {n : Nat} {F : zF} {ad dl : Int} {ar q : Nat → Nat} (hC : CT h (oTr (σ 4)) n F ad dl ar q) {dep : Nat → Nat} {B : Int} (hw : WF n F dep B) (hB : 24 * (60 + B) ≤ 1000000000) {len st sl dp : Int → Int} (hl : IsLen n F len) (ht : IsTm n F len st sl dp) (hP : PLN h n F len st sl dp ar q) {x y : Int} {k : Nat} (hz : zpos n F x = k) {k2 : Nat} (hz2 : zpos n F y = k2) (h4 : F k2 1 = 0) : Ev M_X6_slackIf 0 [(0, zr (some 0)), (1, zi x), (2, zi y)] [] h (0, 0) (.inr 2, h) := by
  have hM := hS.1
  have hTr := hS.2.2.2.1.2
  have hcn := hS.2.2.2.2.1.1
  have hc4 := hS.2.2.2.2.1.2
  have hK : ∀ j, j < 5 → h.1[oTr (σ j)]? = some (2, 0) := fun j hj => zk_at hM.1 (KK_T _ (hS.2.2.1.1 j hj))
  have hs5 : ∀ j, j < 5 → oTr (σ j) + 51 ≤ 260 := fun j hj => by have := hS.2.2.1.1 j hj; unfold oTr; omega
  obtain ⟨j, hj, ej, k1⟩ := s_existing hM hTr hC hw hz
  subst ej
  have ez : F (q j) 0 = x := (zpos_num hz).2
  have b0 := (hw.2.2.2.1 (q j) (hC.qlt hj)).1
  obtain ⟨i, hi, ei, k2⟩ := s_existing hM hTr hC hw hz2
  subst ei
  have ez2 : F (q i) 0 = y := (zpos_num hz2).2
  have b2 := (hw.2.2.2.1 (q i) (hC.qlt hi)).1
  refine Ev.aload_n (pc := 0) (n := (0, 0)) (i := 0) dX6_slackIf_0 rfl rfl ?_
  refine Ev.iload_n (pc := 1) (n := (0, 0)) (i := 1) dX6_slackIf_1 rfl rfl ?_
  refine Ev.callV (pc := 2) (n := (0, 0)) (ob := 0) (as := [zi x]) (st := []) (k1) dX6_slackIf_2 ok_X6_existing (lk_X6_62 rfl) ⟨(Nat.le_of_ble_eq_true rfl), (Nat.le_of_ble_eq_true rfl)⟩ (zk_at hM.1 rfl) ⟨by decide, rfl⟩ rfl (Nat.le_of_ble_eq_true rfl) (Nat.le_of_ble_eq_true rfl) ⟨(Nat.le_of_ble_eq_true rfl), (Nat.le_of_ble_eq_true rfl)⟩ ?_
  refine Ev.astore_n (pc := 5) (n := (1, 6)) (i := 3) (L' := [(3, zr (some (ar j))), (0, zr (some 0)), (1, zi x), (2, zi y)]) dX6_slackIf_5 rfl (Nat.le_of_ble_eq_true rfl) rfl ?_
  refine Ev.aload_n (pc := 6) (n := (1, 6)) (i := 0) dX6_slackIf_6 rfl rfl ?_
  refine Ev.iload_n (pc := 7) (n := (1, 6)) (i := 2) dX6_slackIf_7 rfl rfl ?_
  refine Ev.callV (pc := 8) (n := (1, 6)) (ob := 0) (as := [zi y]) (st := []) (k2) dX6_slackIf_8 ok_X6_existing (lk_X6_62 rfl) ⟨(Nat.le_of_ble_eq_true rfl), (Nat.le_of_ble_eq_true rfl)⟩ (zk_at hM.1 rfl) ⟨by decide, rfl⟩ rfl (Nat.le_of_ble_eq_true rfl) (Nat.le_of_ble_eq_true rfl) ⟨(Nat.le_of_ble_eq_true rfl), (Nat.le_of_ble_eq_true rfl)⟩ ?_
  refine Ev.astore (pc := 11) (n := (2, 12)) (i := 4) (L' := [(4, zr (some (ar i))), (3, zr (some (ar j))), (0, zr (some 0)), (1, zi x), (2, zi y)]) dX6_slackIf_11 (Nat.le_of_ble_eq_true rfl) rfl ?_
  refine Ev.aload (pc := 13) (n := (2, 12)) dX6_slackIf_13 rfl ?_
  exact Ev.callSX (pc := 15) (n := (2, 12)) (as := [zr (some (ar i))]) (st := []) (s_requireTask_no hC hi h4) dX6_slackIf_15 ok_X6_requireTask (lk_X6_100 rfl) ⟨(Nat.le_of_ble_eq_true rfl), (Nat.le_of_ble_eq_true rfl)⟩ rfl (Nat.le_of_ble_eq_true rfl) (Nat.le_of_ble_eq_true rfl) ⟨(Nat.le_of_ble_eq_true rfl), (Nat.le_of_ble_eq_true rfl)⟩ rfl
theorem sX_slackIf {h : zH} {σ : Nat → Nat} {cnt : Nat} {t : Int → Int} {L : Nat} {S : Nat → Nat × zF × Int × Int} (hS : CS h σ cnt t L S) {n : Nat} {F : zF} {ad dl : Int} {ar q : Nat → Nat} (hC : CT h (oTr (σ 4)) n F ad dl ar q) {dep : Nat → Nat} {B : Int} (hw : WF n F dep B) (hB : 24 * (60 + B) ≤ 1000000000) {len st sl dp : Int → Int} (hl : IsLen n F len) (ht : IsTm n F len st sl dp) (hP : PLN h n F len st sl dp ar q) {x y : Int} {k : Nat} (hz : zpos n F x = k) {k2 : Nat} (hz2 : zpos n F y = k2) (h4 : F k2 1 = 1) {dep3 : Nat → Nat} {B3 : Int} (hw3 : WF n (fup F k2 6 (F k2 6 + sl k2)) dep3 B3) (hB3 : 24 * (60 + B3) ≤ 1000000000) {len3 st3 sl3 dp3 : Int → Int} (hl3 : IsLen n (fup F k2 6 (F k2 6 + sl k2)) len3) (ht3 : IsTm n (fup F k2 6 (F k2 6 + sl k2)) len3 st3 sl3 dp3) : ∃ (I3 : Nat → Int → Int) (R3 : Nat → Int → Option Nat), CS (h.1, I3, R3) σ cnt t L S ∧ TS (h.1, I3, R3) (oTr (σ 4)) n F ad dl ∧ (∀ o, 260 ≤ o → I3 o = h.2.1 o ∧ R3 o = h.2.2 o) ∧ Ev M_X6_slackIf 0 [(0, zr (some 0)), (1, zi x), (2, zi y)] [] h (0, 0) (.inl (some (zi (sl3 k))), (h.1, I3, R3)) := by
  have hM := hS.1
  have hTr := hS.2.2.2.1.2
  have hcn := hS.2.2.2.2.1.1
  have hc4 := hS.2.2.2.2.1.2
  have hK : ∀ j, j < 5 → h.1[oTr (σ j)]? = some (2, 0) := fun j hj => zk_at hM.1 (KK_T _ (hS.2.2.1.1 j hj))
  have hs5 : ∀ j, j < 5 → oTr (σ j) + 51 ≤ 260 := fun j hj => by have := hS.2.2.1.1 j hj; unfold oTr; omega
  obtain ⟨j, hj, ej, k1⟩ := s_existing hM hTr hC hw hz
  subst ej
  have ez : F (q j) 0 = x := (zpos_num hz).2
  have b0 := (hw.2.2.2.1 (q j) (hC.qlt hj)).1
  obtain ⟨i, hi, ei, k2⟩ := s_existing hM hTr hC hw hz2
  subst ei
  have ez2 : F (q i) 0 = y := (zpos_num hz2).2
  have b2 := (hw.2.2.2.1 (q i) (hC.qlt hi)).1
  obtain ⟨I3, R3, ⟨hC3, hP3, hfr⟩, kc⟩ := s_slackIfC hC hw hB hl ht hP hj hi hw3 hB3 hl3 ht3
  refine ⟨I3, R3, CS.tree hS hfr, ⟨ar, q, len, st, sl, dp, hC3, hl, ht, hP3⟩, fun o ho => hfr o (Or.inr (by have := hs5 4 (by decide); omega)), ?_⟩
  refine Ev.aload_n (pc := 0) (n := (0, 0)) (i := 0) dX6_slackIf_0 rfl rfl ?_
  refine Ev.iload_n (pc := 1) (n := (0, 0)) (i := 1) dX6_slackIf_1 rfl rfl ?_
  refine Ev.callV (pc := 2) (n := (0, 0)) (ob := 0) (as := [zi x]) (st := []) (k1) dX6_slackIf_2 ok_X6_existing (lk_X6_62 rfl) ⟨(Nat.le_of_ble_eq_true rfl), (Nat.le_of_ble_eq_true rfl)⟩ (zk_at hM.1 rfl) ⟨by decide, rfl⟩ rfl (Nat.le_of_ble_eq_true rfl) (Nat.le_of_ble_eq_true rfl) ⟨(Nat.le_of_ble_eq_true rfl), (Nat.le_of_ble_eq_true rfl)⟩ ?_
  refine Ev.astore_n (pc := 5) (n := (1, 6)) (i := 3) (L' := [(3, zr (some (ar j))), (0, zr (some 0)), (1, zi x), (2, zi y)]) dX6_slackIf_5 rfl (Nat.le_of_ble_eq_true rfl) rfl ?_
  refine Ev.aload_n (pc := 6) (n := (1, 6)) (i := 0) dX6_slackIf_6 rfl rfl ?_
  refine Ev.iload_n (pc := 7) (n := (1, 6)) (i := 2) dX6_slackIf_7 rfl rfl ?_
  refine Ev.callV (pc := 8) (n := (1, 6)) (ob := 0) (as := [zi y]) (st := []) (k2) dX6_slackIf_8 ok_X6_existing (lk_X6_62 rfl) ⟨(Nat.le_of_ble_eq_true rfl), (Nat.le_of_ble_eq_true rfl)⟩ (zk_at hM.1 rfl) ⟨by decide, rfl⟩ rfl (Nat.le_of_ble_eq_true rfl) (Nat.le_of_ble_eq_true rfl) ⟨(Nat.le_of_ble_eq_true rfl), (Nat.le_of_ble_eq_true rfl)⟩ ?_
  refine Ev.astore (pc := 11) (n := (2, 12)) (i := 4) (L' := [(4, zr (some (ar i))), (3, zr (some (ar j))), (0, zr (some 0)), (1, zi x), (2, zi y)]) dX6_slackIf_11 (Nat.le_of_ble_eq_true rfl) rfl ?_
  refine Ev.aload (pc := 13) (n := (2, 12)) dX6_slackIf_13 rfl ?_
  refine Ev.callS (pc := 15) (n := (2, 12)) (as := [zr (some (ar i))]) (st := []) (s_requireTask hC hi h4) dX6_slackIf_15 ok_X6_requireTask (lk_X6_100 rfl) ⟨(Nat.le_of_ble_eq_true rfl), (Nat.le_of_ble_eq_true rfl)⟩ rfl (Nat.le_of_ble_eq_true rfl) (Nat.le_of_ble_eq_true rfl) ⟨(Nat.le_of_ble_eq_true rfl), (Nat.le_of_ble_eq_true rfl)⟩ ?_
  refine Ev.aload_n (pc := 18) (n := (3, 18)) (i := 0) dX6_slackIf_18 rfl rfl ?_
  refine Ev.gR (pc := 19) (n := (3, 18)) (r := (some (oTr (σ 4)))) dX6_slackIf_19 fl_X6_27 (zk_at hM.1 rfl) rfl hTr ?_
  refine Ev.aload_n (pc := 22) (n := (3, 18)) (i := 3) dX6_slackIf_22 rfl rfl ?_
  refine Ev.aload (pc := 23) (n := (3, 18)) dX6_slackIf_23 rfl ?_
  refine Ev.callV (pc := 25) (n := (3, 18)) (ob := (oTr (σ 4))) (as := [zr (some (ar j)), zr (some (ar i))]) (st := []) (kc) dX6_slackIf_25 ok_X5_slackIfBorrowed (lk_X6_117 rfl) ⟨(Nat.le_of_ble_eq_true rfl), (Nat.le_of_ble_eq_true rfl)⟩ (hK 4 (by decide)) ⟨by decide, rfl⟩ rfl (Nat.le_of_ble_eq_true rfl) (Nat.le_of_ble_eq_true rfl) ⟨(Nat.le_of_ble_eq_true rfl), (Nat.le_of_ble_eq_true rfl)⟩ ?_
  exact Ev.iret dX6_slackIf_28 rfl ⟨(Nat.le_of_ble_eq_true rfl), (Nat.le_of_ble_eq_true rfl)⟩
theorem sX_reason {h : zH} {σ : Nat → Nat} {cnt : Nat} {t : Int → Int} {L : Nat} {S : Nat → Nat × zF × Int × Int} (hS : CS h σ cnt t L S) {n : Nat} {F : zF} {ad dl : Int} {ar q : Nat → Nat} (hC : CT h (oTr (σ 4)) n F ad dl ar q) {dep : Nat → Nat} {B : Int} (hw : WF n F dep B) (hB : 24 * (60 + B) ≤ 1000000000) {len st sl dp : Int → Int} (hl : IsLen n F len) (ht : IsTm n F len st sl dp) (hP : PLN h n F len st sl dp ar q) {x y : Int} {k : Nat} (hz : zpos n F x = k) {k2 : Nat} (hz2 : zpos n F y = k2) : ∃ v : Int, IsReason n F x y v ∧ Ev M_X6_reason 0 [(0, zr (some 0)), (1, zi x), (2, zi y)] [] h (0, 0) (.inl (some (zi (v))), h) := by
  have hM := hS.1
  have hTr := hS.2.2.2.1.2
  have hcn := hS.2.2.2.2.1.1
  have hc4 := hS.2.2.2.2.1.2
  have hK : ∀ j, j < 5 → h.1[oTr (σ j)]? = some (2, 0) := fun j hj => zk_at hM.1 (KK_T _ (hS.2.2.1.1 j hj))
  have hs5 : ∀ j, j < 5 → oTr (σ j) + 51 ≤ 260 := fun j hj => by have := hS.2.2.1.1 j hj; unfold oTr; omega
  obtain ⟨j, hj, ej, k1⟩ := s_existing hM hTr hC hw hz
  subst ej
  have ez : F (q j) 0 = x := (zpos_num hz).2
  have b0 := (hw.2.2.2.1 (q j) (hC.qlt hj)).1
  obtain ⟨i, hi, ei, k2⟩ := s_existing hM hTr hC hw hz2
  subst ei
  have ez2 : F (q i) 0 = y := (zpos_num hz2).2
  have b2 := (hw.2.2.2.1 (q i) (hC.qlt hi)).1
  obtain ⟨v, hv, kc⟩ := s_whyNotTo hC hw hP hj hi
  rw [ez, ez2] at hv
  refine ⟨v, hv, ?_⟩
  refine Ev.aload_n (pc := 0) (n := (0, 0)) (i := 0) dX6_reason_0 rfl rfl ?_
  refine Ev.iload_n (pc := 1) (n := (0, 0)) (i := 1) dX6_reason_1 rfl rfl ?_
  refine Ev.callV (pc := 2) (n := (0, 0)) (ob := 0) (as := [zi x]) (st := []) (k1) dX6_reason_2 ok_X6_existing (lk_X6_62 rfl) ⟨(Nat.le_of_ble_eq_true rfl), (Nat.le_of_ble_eq_true rfl)⟩ (zk_at hM.1 rfl) ⟨by decide, rfl⟩ rfl (Nat.le_of_ble_eq_true rfl) (Nat.le_of_ble_eq_true rfl) ⟨(Nat.le_of_ble_eq_true rfl), (Nat.le_of_ble_eq_true rfl)⟩ ?_
  refine Ev.aload_n (pc := 5) (n := (1, 6)) (i := 0) dX6_reason_5 rfl rfl ?_
  refine Ev.iload_n (pc := 6) (n := (1, 6)) (i := 2) dX6_reason_6 rfl rfl ?_
  refine Ev.callV (pc := 7) (n := (1, 6)) (ob := 0) (as := [zi y]) (st := [zr (some (ar j))]) (k2) dX6_reason_7 ok_X6_existing (lk_X6_62 rfl) ⟨(Nat.le_of_ble_eq_true rfl), (Nat.le_of_ble_eq_true rfl)⟩ (zk_at hM.1 rfl) ⟨by decide, rfl⟩ rfl (Nat.le_of_ble_eq_true rfl) (Nat.le_of_ble_eq_true rfl) ⟨(Nat.le_of_ble_eq_true rfl), (Nat.le_of_ble_eq_true rfl)⟩ ?_
  refine Ev.callV (pc := 10) (n := (2, 12)) (ob := (ar j)) (as := [zr (some (ar i))]) (st := []) (kc) dX6_reason_10 ok_X3_whyNotTo (lk_X6_121 rfl) ⟨(Nat.le_of_ble_eq_true rfl), (Nat.le_of_ble_eq_true rfl)⟩ (hC.nd hj).1 ⟨by decide, rfl⟩ rfl (Nat.le_of_ble_eq_true rfl) (Nat.le_of_ble_eq_true rfl) ⟨(Nat.le_of_ble_eq_true rfl), (Nat.le_of_ble_eq_true rfl)⟩ ?_
  exact Ev.iret dX6_reason_13 rfl ⟨(Nat.le_of_ble_eq_true rfl), (Nat.le_of_ble_eq_true rfl)⟩
