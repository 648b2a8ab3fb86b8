theorem s_rowLengthF {h : zH} {I : Nat → Int → Int} {F : zF} (hR : zRM h) {n : Nat} (hn : I 261 0 = n) (hn24 : n ≤ 24) {dep : Nat → Nat} {B : Int} (hw : WF n F dep B) (hB : 24 * (60 + B) ≤ 1000000000) {len st sl dp : Int → Int} (hl : IsLen n F len) (ht : IsTm n F len st sl dp) (hA : ∀ k : Nat, k < n → I 263 k = len k ∧ I 264 k = st k ∧ I 265 k = sl k ∧ I 266 k = dp k) {gr r : Int} : Ev M_X7_rowLength 0 [(0, zr (some 260)), (1, zi gr), (2, zi r)] [] (h.1, zrw I F, h.2.2) (0, 0) (.inl (some (zi (mrl n F len gr r))), (h.1, zrw I F, h.2.2)) := by
  have hm := mtot_le hw
  have e : ∀ m : Nat, m ≤ n → zsum (fun j => if rf (h.1, zrw I F, h.2.2) j 2 = gr ∧ rf (h.1, zrw I F, h.2.2) j 3 = r then zrw I F 263 j else 0) m = zsum (fun j => if F j 2 = gr ∧ F j 3 = r then len j else 0) m := fun m hm => zsum_congr fun k hk => by
    have a2 : rf (h.1, zrw I F, h.2.2) k 2 = F k 2 := zrw_at I F (by omega) (by omega)
    have a3 : rf (h.1, zrw I F, h.2.2) k 3 = F k 3 := zrw_at I F (by omega) (by omega)
    have a4 : zrw I F 263 k = len k := (congrFun (zrw_o I F (by decide)) k).trans (hA k (by omega)).1
    rw [a2, a3, a4]
  have k9 := s_rowLength (h := (h.1, zrw I F, h.2.2)) (hR.up _) (gr := gr) (r := r) (n := n) ((zrw_x I F (by omega)).trans hn) hn24 (fun m hm2 => by
    have b := mrl_bd hw hl gr r m hm2
    have e2 := e m hm2
    show -1000000000 ≤ zsum (fun j => if rf (h.1, zrw I F, h.2.2) j 2 = gr ∧ rf (h.1, zrw I F, h.2.2) j 3 = r then zrw I F 263 j else 0) m ∧ zsum (fun j => if rf (h.1, zrw I F, h.2.2) j 2 = gr ∧ rf (h.1, zrw I F, h.2.2) j 3 = r then zrw I F 263 j else 0) m ≤ 1000000000
    rw [e2]
    omega)
  have e3 := e n (Nat.le_refl _)
  have e4 : zsum (fun j => if rf (h.1, zrw I F, h.2.2) j 2 = gr ∧ rf (h.1, zrw I F, h.2.2) j 3 = r then (h.1, zrw I F, h.2.2).2.1 263 j else 0) n = mrl n F len gr r := e3
  rw [e4] at k9
  exact k9
theorem s_rowSlackF {h : zH} {I : Nat → Int → Int} {F : zF} (hR : zRM h) {n : Nat} (hn : I 261 0 = n) (hn24 : n ≤ 24) {dep : Nat → Nat} {B : Int} (hw : WF n F dep B) (hB : 24 * (60 + B) ≤ 1000000000) {len st sl dp : Int → Int} (hl : IsLen n F len) (ht : IsTm n F len st sl dp) (hA : ∀ k : Nat, k < n → I 263 k = len k ∧ I 264 k = st k ∧ I 265 k = sl k ∧ I 266 k = dp k) {p : Nat} {gr : Int} (hf : zpos n F gr = p) {r : Int} : Ev M_X7_rowSlack 0 [(0, zr (some 260)), (1, zi gr), (2, zi r)] [] (h.1, zrw I F, h.2.2) (0, 0) (.inl (some (zi (len p - mrl n F len gr r))), (h.1, zrw I F, h.2.2)) := by
  have hp := (zpos_num hf).1
  have hm := mtot_le hw
  have b1 := hl.bd hw p hp
  have b2 := mrl_bd hw hl gr r n (Nat.le_refl _)
  have e9 : mrl n F len gr r = zsum (fun k => if F k 2 = gr ∧ F k 3 = r then len k else 0) n := rfl
  refine Ev.aload_n (pc := 0) (n := (0, 0)) (i := 0) dX7_rowSlack_0 rfl rfl ?_
  refine Ev.gR (pc := 1) (n := (0, 0)) (r := (some 263)) dX7_rowSlack_1 fl_X7_16 (zk_at hR.1 rfl) rfl hR.2.2.2.1 ?_
  refine Ev.aload_n (pc := 4) (n := (0, 0)) (i := 0) dX7_rowSlack_4 rfl rfl ?_
  refine Ev.iload_n (pc := 5) (n := (0, 0)) (i := 1) dX7_rowSlack_5 rfl rfl ?_
  refine Ev.callV (pc := 6) (n := (0, 0)) (ob := 260) (as := [zi gr]) (st := [zr (some 263)]) (s_findF hR hn hn24) dX7_rowSlack_6 ok_X7_find (lk_X7_53 rfl) ⟨(Nat.le_of_ble_eq_true rfl), (Nat.le_of_ble_eq_true rfl)⟩ (zk_at hR.1 rfl) ⟨by decide, rfl⟩ rfl (Nat.le_of_ble_eq_true rfl) (Nat.le_of_ble_eq_true rfl) ⟨(Nat.le_of_ble_eq_true rfl), (Nat.le_of_ble_eq_true rfl)⟩ ?_
  rw [hf]
  refine Ev.ia (pc := 9) (n := (0, 0)) (x := (len p)) dX7_rowSlack_9 (zk_at hR.1 rfl) (by omega) (by omega) ((congrFun (zrw_o I F (by decide)) p).trans (hA p hp).1) ?_
  refine Ev.aload_n (pc := 10) (n := (0, 0)) (i := 0) dX7_rowSlack_10 rfl rfl ?_
  refine Ev.iload_n (pc := 11) (n := (0, 0)) (i := 1) dX7_rowSlack_11 rfl rfl ?_
  refine Ev.iload_n (pc := 12) (n := (0, 0)) (i := 2) dX7_rowSlack_12 rfl rfl ?_
  refine Ev.callV (pc := 13) (n := (0, 0)) (ob := 260) (as := [zi gr, zi r]) (st := [zi (len p)]) (s_rowLengthF hR hn hn24 hw hB hl ht hA) dX7_rowSlack_13 ok_X7_rowLength (lk_X7_68 rfl) ⟨(Nat.le_of_ble_eq_true rfl), (Nat.le_of_ble_eq_true rfl)⟩ (zk_at hR.1 rfl) ⟨by decide, rfl⟩ rfl (Nat.le_of_ble_eq_true rfl) (Nat.le_of_ble_eq_true rfl) ⟨(Nat.le_of_ble_eq_true rfl), (Nat.le_of_ble_eq_true rfl)⟩ ?_
  refine Ev.isub (pc := 16) (n := (0, 0)) dX7_rowSlack_16 ⟨by omega, by omega⟩ ?_
  exact Ev.iret dX7_rowSlack_17 rfl ⟨(Nat.le_of_ble_eq_true rfl), (Nat.le_of_ble_eq_true rfl)⟩
abbrev mcr (n : Nat) (f : zF) (len sl : Int → Int) (p : Int) (g r : Int) : Prop := len p - mrl n f len g r = 0 ∧ sl p = 0 ∧ 0 < mcc n f g r
def mrow (n : Nat) (f : zF) (len sl : Int → Int) (p : Int) (g r w : Int) : Int := if w = 0 then mcc n f g r else if w = 1 then mrl n f len g r else if w = 2 then len p - mrl n f len g r else if mcr n f len sl p g r then 1 else 0
def mnode (n : Nat) (f : zF) (len st sl dp : Int → Int) (k w : Int) : Int := if w = 0 then f k 1 else if w ≤ 3 then (if k = 0 then -1 else f k (w + 1)) else if w = 4 then (if f k 1 = 1 then f k 5 else -1) else if w = 5 then (if f k 1 = 1 then f k 6 else -1) else if w = 6 then len k else if w = 7 then st k else if w = 8 then st k + sl k else if w = 9 then sl k else if w = 10 then (if k = 0 then 0 else len (zpos n f (f k 2)) - mrl n f len (f k 2) (f k 3)) else if w = 11 then (if sl k = 0 then 1 else 0) else dp k
theorem s_isCriticalRow {h : zH} {I : Nat → Int → Int} {F : zF} (hR : zRM h) {n : Nat} (hn : I 261 0 = n) (hn24 : n ≤ 24) {dep : Nat → Nat} {B : Int} (hw : WF n F dep B) (hB : 24 * (60 + B) ≤ 1000000000) {len st sl dp : Int → Int} (hl : IsLen n F len) (ht : IsTm n F len st sl dp) (hA : ∀ k : Nat, k < n → I 263 k = len k ∧ I 264 k = st k ∧ I 265 k = sl k ∧ I 266 k = dp k) {p : Nat} {gr : Int} (hf : zpos n F gr = p) {r : Int} : Ev M_X7_isCriticalRow 0 [(0, zr (some 260)), (1, zi gr), (2, zi r)] [] (h.1, zrw I F, h.2.2) (0, 0) (.inl (some (zi (if mcr n F len sl p gr r then 1 else 0))), (h.1, zrw I F, h.2.2)) := by
  have hp := (zpos_num hf).1
  have hm := mtot_le hw
  have b1 := hl.bd hw p hp
  refine Ev.aload_n (pc := 0) (n := (0, 0)) (i := 0) dX7_isCriticalRow_0 rfl rfl ?_
  refine Ev.iload_n (pc := 1) (n := (0, 0)) (i := 1) dX7_isCriticalRow_1 rfl rfl ?_
  refine Ev.iload_n (pc := 2) (n := (0, 0)) (i := 2) dX7_isCriticalRow_2 rfl rfl ?_
  refine Ev.callV (pc := 3) (n := (0, 0)) (ob := 260) (as := [zi gr, zi r]) (st := []) (s_rowSlackF hR hn hn24 hw hB hl ht hA hf) dX7_isCriticalRow_3 ok_X7_rowSlack (lk_X7_71 rfl) ⟨(Nat.le_of_ble_eq_true rfl), (Nat.le_of_ble_eq_true rfl)⟩ (zk_at hR.1 rfl) ⟨by decide, rfl⟩ rfl (Nat.le_of_ble_eq_true rfl) (Nat.le_of_ble_eq_true rfl) ⟨(Nat.le_of_ble_eq_true rfl), (Nat.le_of_ble_eq_true rfl)⟩ ?_
  refine Ev.if_ne (pc := 6) (n := (0, 0)) (tgt := 35) dX7_isCriticalRow_6 rfl (fun h1 => ?_) (fun h1 => ?_)
  · skip
    rw [if_neg (fun g9 : mcr n F len sl p gr r => h1 g9.1)]
    refine Ev.iconst (pc := 35) (n := (0, 0)) dX7_isCriticalRow_35 ?_
    exact Ev.bret dX7_isCriticalRow_36 rfl (by decide) ⟨(Nat.le_of_ble_eq_true rfl), (Nat.le_of_ble_eq_true rfl)⟩
  · skip
    refine Ev.aload_n (pc := 9) (n := (0, 0)) (i := 0) dX7_isCriticalRow_9 rfl rfl ?_
    refine Ev.gR (pc := 10) (n := (0, 0)) (r := (some 265)) dX7_isCriticalRow_10 fl_X7_22 (zk_at hR.1 rfl) rfl hR.2.2.2.2.2.1 ?_
    refine Ev.aload_n (pc := 13) (n := (0, 0)) (i := 0) dX7_isCriticalRow_13 rfl rfl ?_
    refine Ev.iload_n (pc := 14) (n := (0, 0)) (i := 1) dX7_isCriticalRow_14 rfl rfl ?_
    refine Ev.callV (pc := 15) (n := (0, 0)) (ob := 260) (as := [zi gr]) (st := [zr (some 265)]) (s_findF hR hn hn24) dX7_isCriticalRow_15 ok_X7_find (lk_X7_53 rfl) ⟨(Nat.le_of_ble_eq_true rfl), (Nat.le_of_ble_eq_true rfl)⟩ (zk_at hR.1 rfl) ⟨by decide, rfl⟩ rfl (Nat.le_of_ble_eq_true rfl) (Nat.le_of_ble_eq_true rfl) ⟨(Nat.le_of_ble_eq_true rfl), (Nat.le_of_ble_eq_true rfl)⟩ ?_
    rw [hf]
    refine Ev.ia (pc := 18) (n := (0, 0)) (x := (sl p)) dX7_isCriticalRow_18 (zk_at hR.1 rfl) (by omega) (by omega) ((congrFun (zrw_o I F (by decide)) p).trans (hA p hp).2.2.1) ?_
    refine Ev.if_ne (pc := 19) (n := (0, 0)) (tgt := 35) dX7_isCriticalRow_19 rfl (fun h2 => ?_) (fun h2 => ?_)
    · skip
      rw [if_neg (fun g9 : mcr n F len sl p gr r => h2 g9.2.1)]
      refine Ev.iconst (pc := 35) (n := (0, 0)) dX7_isCriticalRow_35 ?_
      exact Ev.bret dX7_isCriticalRow_36 rfl (by decide) ⟨(Nat.le_of_ble_eq_true rfl), (Nat.le_of_ble_eq_true rfl)⟩
    · skip
      refine Ev.aload_n (pc := 22) (n := (0, 0)) (i := 0) dX7_isCriticalRow_22 rfl rfl ?_
      refine Ev.iload_n (pc := 23) (n := (0, 0)) (i := 1) dX7_isCriticalRow_23 rfl rfl ?_
      refine Ev.iload_n (pc := 24) (n := (0, 0)) (i := 2) dX7_isCriticalRow_24 rfl rfl ?_
      refine Ev.callV (pc := 25) (n := (0, 0)) (ob := 260) (as := [zi gr, zi r]) (st := []) (s_childrenOfF hR hn hn24) dX7_isCriticalRow_25 ok_X7_childrenOf (lk_X7_97 rfl) ⟨(Nat.le_of_ble_eq_true rfl), (Nat.le_of_ble_eq_true rfl)⟩ (zk_at hR.1 rfl) ⟨by decide, rfl⟩ rfl (Nat.le_of_ble_eq_true rfl) (Nat.le_of_ble_eq_true rfl) ⟨(Nat.le_of_ble_eq_true rfl), (Nat.le_of_ble_eq_true rfl)⟩ ?_
      refine Ev.if_le (pc := 28) (n := (0, 0)) (tgt := 35) dX7_isCriticalRow_28 rfl (fun h3 => ?_) (fun h3 => ?_)
      · skip
        rw [if_neg (fun g9 : mcr n F len sl p gr r => absurd g9.2.2 (by omega))]
        refine Ev.iconst (pc := 35) (n := (0, 0)) dX7_isCriticalRow_35 ?_
        exact Ev.bret dX7_isCriticalRow_36 rfl (by decide) ⟨(Nat.le_of_ble_eq_true rfl), (Nat.le_of_ble_eq_true rfl)⟩
      · skip
        rw [if_pos (show mcr n F len sl p gr r from ⟨h1, h2, by omega⟩)]
        refine Ev.iconst (pc := 31) (n := (0, 0)) dX7_isCriticalRow_31 ?_
        refine Ev.goto (pc := 32) (n := (0, 0)) (tgt := 36) dX7_isCriticalRow_32 rfl ?_
        exact Ev.bret dX7_isCriticalRow_36 rfl (by decide) ⟨(Nat.le_of_ble_eq_true rfl), (Nat.le_of_ble_eq_true rfl)⟩
theorem s_rowValue {h : zH} {I : Nat → Int → Int} {F : zF} (hR : zRM h) {n : Nat} (hn : I 261 0 = n) (hn24 : n ≤ 24) {dep : Nat → Nat} {B : Int} (hw : WF n F dep B) (hB : 24 * (60 + B) ≤ 1000000000) {len st sl dp : Int → Int} (hl : IsLen n F len) (ht : IsTm n F len st sl dp) (hA : ∀ k : Nat, k < n → I 263 k = len k ∧ I 264 k = st k ∧ I 265 k = sl k ∧ I 266 k = dp k) {p : Nat} {gr : Int} (hf : zpos n F gr = p) {r w : Int} (hw3 : 0 ≤ w ∧ w ≤ 3) : Ev M_X7_rowValue 0 [(0, zr (some 260)), (1, zi gr), (2, zi r), (3, zi w)] [] (h.1, zrw I F, h.2.2) (0, 0) (.inl (some (zi (mrow n F len sl p gr r w))), (h.1, zrw I F, h.2.2)) := by
  rcases (show w = 0 ∨ w = 1 ∨ w = 2 ∨ w = 3 by omega) with e | e | e | e <;> subst e
  · skip
    have e9 : mrow n F len sl p gr r 0 = mcc n F gr r := rfl
    rw [e9]
    refine Ev.iload_n (pc := 0) (n := (0, 0)) (i := 3) dX7_rowValue_0 rfl rfl ?_
    refine Ev.tableIn (pc := 1) (n := (0, 0)) (off := 27) (tgt := 28) dX7_rowValue_1 (by omega) (by omega) (by rfl) rfl ?_
    refine Ev.aload_n (pc := 28) (n := (0, 0)) (i := 0) dX7_rowValue_28 rfl rfl ?_
    refine Ev.iload_n (pc := 29) (n := (0, 0)) (i := 1) dX7_rowValue_29 rfl rfl ?_
    refine Ev.iload_n (pc := 30) (n := (0, 0)) (i := 2) dX7_rowValue_30 rfl rfl ?_
    refine Ev.callV (pc := 31) (n := (0, 0)) (ob := 260) (as := [zi gr, zi r]) (st := []) (s_childrenOfF hR hn hn24) dX7_rowValue_31 ok_X7_childrenOf (lk_X7_97 rfl) ⟨(Nat.le_of_ble_eq_true rfl), (Nat.le_of_ble_eq_true rfl)⟩ (zk_at hR.1 rfl) ⟨by decide, rfl⟩ rfl (Nat.le_of_ble_eq_true rfl) (Nat.le_of_ble_eq_true rfl) ⟨(Nat.le_of_ble_eq_true rfl), (Nat.le_of_ble_eq_true rfl)⟩ ?_
    exact Ev.iret dX7_rowValue_34 rfl ⟨(Nat.le_of_ble_eq_true rfl), (Nat.le_of_ble_eq_true rfl)⟩
  · skip
    have e9 : mrow n F len sl p gr r 1 = mrl n F len gr r := rfl
    rw [e9]
    refine Ev.iload_n (pc := 0) (n := (0, 0)) (i := 3) dX7_rowValue_0 rfl rfl ?_
    refine Ev.tableIn (pc := 1) (n := (0, 0)) (off := 34) (tgt := 35) dX7_rowValue_1 (by omega) (by omega) (by rfl) rfl ?_
    refine Ev.aload_n (pc := 35) (n := (0, 0)) (i := 0) dX7_rowValue_35 rfl rfl ?_
    refine Ev.iload_n (pc := 36) (n := (0, 0)) (i := 1) dX7_rowValue_36 rfl rfl ?_
    refine Ev.iload_n (pc := 37) (n := (0, 0)) (i := 2) dX7_rowValue_37 rfl rfl ?_
    refine Ev.callV (pc := 38) (n := (0, 0)) (ob := 260) (as := [zi gr, zi r]) (st := []) (s_rowLengthF hR hn hn24 hw hB hl ht hA) dX7_rowValue_38 ok_X7_rowLength (lk_X7_68 rfl) ⟨(Nat.le_of_ble_eq_true rfl), (Nat.le_of_ble_eq_true rfl)⟩ (zk_at hR.1 rfl) ⟨by decide, rfl⟩ rfl (Nat.le_of_ble_eq_true rfl) (Nat.le_of_ble_eq_true rfl) ⟨(Nat.le_of_ble_eq_true rfl), (Nat.le_of_ble_eq_true rfl)⟩ ?_
    exact Ev.iret dX7_rowValue_41 rfl ⟨(Nat.le_of_ble_eq_true rfl), (Nat.le_of_ble_eq_true rfl)⟩
  · skip
    have e9 : mrow n F len sl p gr r 2 = len p - mrl n F len gr r := rfl
    rw [e9]
    refine Ev.iload_n (pc := 0) (n := (0, 0)) (i := 3) dX7_rowValue_0 rfl rfl ?_
    refine Ev.tableIn (pc := 1) (n := (0, 0)) (off := 41) (tgt := 42) dX7_rowValue_1 (by omega) (by omega) (by rfl) rfl ?_
    refine Ev.aload_n (pc := 42) (n := (0, 0)) (i := 0) dX7_rowValue_42 rfl rfl ?_
    refine Ev.iload_n (pc := 43) (n := (0, 0)) (i := 1) dX7_rowValue_43 rfl rfl ?_
    refine Ev.iload_n (pc := 44) (n := (0, 0)) (i := 2) dX7_rowValue_44 rfl rfl ?_
    refine Ev.callV (pc := 45) (n := (0, 0)) (ob := 260) (as := [zi gr, zi r]) (st := []) (s_rowSlackF hR hn hn24 hw hB hl ht hA hf) dX7_rowValue_45 ok_X7_rowSlack (lk_X7_71 rfl) ⟨(Nat.le_of_ble_eq_true rfl), (Nat.le_of_ble_eq_true rfl)⟩ (zk_at hR.1 rfl) ⟨by decide, rfl⟩ rfl (Nat.le_of_ble_eq_true rfl) (Nat.le_of_ble_eq_true rfl) ⟨(Nat.le_of_ble_eq_true rfl), (Nat.le_of_ble_eq_true rfl)⟩ ?_
    exact Ev.iret dX7_rowValue_48 rfl ⟨(Nat.le_of_ble_eq_true rfl), (Nat.le_of_ble_eq_true rfl)⟩
  · skip
    have e9 : mrow n F len sl p gr r 3 = if mcr n F len sl p gr r then 1 else 0 := rfl
    rw [e9]
    refine Ev.iload_n (pc := 0) (n := (0, 0)) (i := 3) dX7_rowValue_0 rfl rfl ?_
    refine Ev.tableOut (pc := 1) (n := (0, 0)) (tgt := 49) dX7_rowValue_1 (by omega) rfl ?_
    refine Ev.aload_n (pc := 49) (n := (0, 0)) (i := 0) dX7_rowValue_49 rfl rfl ?_
    refine Ev.iload_n (pc := 50) (n := (0, 0)) (i := 1) dX7_rowValue_50 rfl rfl ?_
    refine Ev.iload_n (pc := 51) (n := (0, 0)) (i := 2) dX7_rowValue_51 rfl rfl ?_
    refine Ev.callV (pc := 52) (n := (0, 0)) (ob := 260) (as := [zi gr, zi r]) (st := []) (s_isCriticalRow hR hn hn24 hw hB hl ht hA hf) dX7_rowValue_52 ok_X7_isCriticalRow (lk_X7_168 rfl) ⟨(Nat.le_of_ble_eq_true rfl), (Nat.le_of_ble_eq_true rfl)⟩ (zk_at hR.1 rfl) ⟨by decide, rfl⟩ rfl (Nat.le_of_ble_eq_true rfl) (Nat.le_of_ble_eq_true rfl) ⟨(Nat.le_of_ble_eq_true rfl), (Nat.le_of_ble_eq_true rfl)⟩ ?_
    by_cases h9 : mcr n F len sl p gr r
    · skip
      rw [if_pos h9]
      refine Ev.if_eq (pc := 55) (n := (0, 0)) (tgt := 62) dX7_rowValue_55 rfl (fun hc => absurd hc (by decide)) (fun hc => ?_)
      refine Ev.iconst (pc := 58) (n := (0, 0)) dX7_rowValue_58 ?_
      refine Ev.goto (pc := 59) (n := (0, 0)) (tgt := 63) dX7_rowValue_59 rfl ?_
      exact Ev.iret dX7_rowValue_63 rfl ⟨(Nat.le_of_ble_eq_true rfl), (Nat.le_of_ble_eq_true rfl)⟩
    · skip
      rw [if_neg h9]
      refine Ev.if_eq (pc := 55) (n := (0, 0)) (tgt := 62) dX7_rowValue_55 rfl (fun hc => ?_) (fun hc => absurd rfl hc)
      refine Ev.iconst (pc := 62) (n := (0, 0)) dX7_rowValue_62 ?_
      exact Ev.iret dX7_rowValue_63 rfl ⟨(Nat.le_of_ble_eq_true rfl), (Nat.le_of_ble_eq_true rfl)⟩
theorem s_nodeValue {h : zH} {I : Nat → Int → Int} {F : zF} (hR : zRM h) {n : Nat} (hn : I 261 0 = n) (hn24 : n ≤ 24) {dep : Nat → Nat} {B : Int} (hw : WF n F dep B) (hB : 24 * (60 + B) ≤ 1000000000) {len st sl dp : Int → Int} (hl : IsLen n F len) (ht : IsTm n F len st sl dp) (hA : ∀ k : Nat, k < n → I 263 k = len k ∧ I 264 k = st k ∧ I 265 k = sl k ∧ I 266 k = dp k) {k : Nat} {w : Int} (hk : k < n) (hw3 : 0 ≤ w ∧ w ≤ 12) : Ev M_X7_nodeValue 0 [(0, zr (some 260)), (1, zi (k : Int)), (2, zi w)] [] (h.1, zrw I F, h.2.2) (0, 0) (.inl (some (zi (mnode n F len st sl dp k w))), (h.1, zrw I F, h.2.2)) := by
  have hm := mtot_le hw
  have b1 := hl.bd hw k hk
  have b2 := ht.bd hw hl k hk
  have b3 : 0 ≤ len 0 ∧ len 0 ≤ mtot n F := hl.bd hw 0 (by omega)
  have hA9 := hA k hk
  suffices K : ∀ t : Int, (F k 1 = 1 → t = 1) → (F k 1 ≠ 1 → t = 0) → Ev M_X7_nodeValue 16 [(3, zi t), (0, zr (some 260)), (1, zi (k : Int)), (2, zi w)] [] (h.1, zrw I F, h.2.2) (0, 0) (.inl (some (zi (mnode n F len st sl dp k w))), (h.1, zrw I F, h.2.2)) by
    refine Ev.aload_n (pc := 0) (n := (0, 0)) (i := 0) dX7_nodeValue_0 rfl rfl ?_
    refine Ev.iload_n (pc := 1) (n := (0, 0)) (i := 1) dX7_nodeValue_1 rfl rfl ?_
    refine Ev.iconst (pc := 2) (n := (0, 0)) dX7_nodeValue_2 ?_
    refine Ev.callV (pc := 3) (n := (0, 0)) (ob := 260) (as := [zi (k : Int), zi 1]) (st := []) (s_ofF hR ⟨by omega, by omega⟩ ⟨by decide, by decide⟩) dX7_nodeValue_3 ok_X7_of (lk_X7_49 rfl) ⟨(Nat.le_of_ble_eq_true rfl), (Nat.le_of_ble_eq_true rfl)⟩ (zk_at hR.1 rfl) ⟨by decide, rfl⟩ rfl (Nat.le_of_ble_eq_true rfl) (Nat.le_of_ble_eq_true rfl) ⟨(Nat.le_of_ble_eq_true rfl), (Nat.le_of_ble_eq_true rfl)⟩ ?_
    refine Ev.iconst (pc := 6) (n := (0, 0)) dX7_nodeValue_6 ?_
    refine Ev.icmp_ne (pc := 7) (n := (0, 0)) (tgt := 14) dX7_nodeValue_7 rfl (fun h1 => ?_) (fun h1 => ?_)
    · skip
      refine Ev.iconst (pc := 14) (n := (0, 0)) dX7_nodeValue_14 ?_
      refine Ev.istore_n (pc := 15) (n := (0, 0)) (i := 3) (L' := [(3, zi 0), (0, zr (some 260)), (1, zi (k : Int)), (2, zi w)]) dX7_nodeValue_15 rfl (Nat.le_of_ble_eq_true rfl) rfl ?_
      exact K 0 (fun e => absurd e h1) (fun _ => rfl)
    · skip
      refine Ev.iconst (pc := 10) (n := (0, 0)) dX7_nodeValue_10 ?_
      refine Ev.goto (pc := 11) (n := (0, 0)) (tgt := 15) dX7_nodeValue_11 rfl ?_
      refine Ev.istore_n (pc := 15) (n := (0, 0)) (i := 3) (L' := [(3, zi 1), (0, zr (some 260)), (1, zi (k : Int)), (2, zi w)]) dX7_nodeValue_15 rfl (Nat.le_of_ble_eq_true rfl) rfl ?_
      exact K 1 (fun _ => rfl) (fun e => absurd h1 e)
  intro t ht1 ht0
  rcases (show w = 0 ∨ w = 1 ∨ w = 2 ∨ w = 3 ∨ w = 4 ∨ w = 5 ∨ w = 6 ∨ w = 7 ∨ w = 8 ∨ w = 9 ∨ w = 10 ∨ w = 11 ∨ w = 12 by omega) with e | e | e | e | e | e | e | e | e | e | e | e | e <;> subst e
  · skip
    have e9 : mnode n F len st sl dp k 0 = F k 1 := rfl
    rw [e9]
    refine Ev.iload_n (pc := 16) (n := (0, 0)) (i := 2) dX7_nodeValue_16 rfl rfl ?_
    refine Ev.tableIn (pc := 17) (n := (0, 0)) (off := 63) (tgt := 80) dX7_nodeValue_17 (by omega) (by omega) (by rfl) rfl ?_
    refine Ev.aload_n (pc := 80) (n := (0, 0)) (i := 0) dX7_nodeValue_80 rfl rfl ?_
    refine Ev.iload_n (pc := 81) (n := (0, 0)) (i := 1) dX7_nodeValue_81 rfl rfl ?_
    refine Ev.iconst (pc := 82) (n := (0, 0)) dX7_nodeValue_82 ?_
    refine Ev.callV (pc := 83) (n := (0, 0)) (ob := 260) (as := [zi (k : Int), zi 1]) (st := []) (s_ofF hR ⟨by omega, by omega⟩ ⟨by decide, by decide⟩) dX7_nodeValue_83 ok_X7_of (lk_X7_49 rfl) ⟨(Nat.le_of_ble_eq_true rfl), (Nat.le_of_ble_eq_true rfl)⟩ (zk_at hR.1 rfl) ⟨by decide, rfl⟩ rfl (Nat.le_of_ble_eq_true rfl) (Nat.le_of_ble_eq_true rfl) ⟨(Nat.le_of_ble_eq_true rfl), (Nat.le_of_ble_eq_true rfl)⟩ ?_
    exact Ev.iret dX7_nodeValue_86 rfl ⟨(Nat.le_of_ble_eq_true rfl), (Nat.le_of_ble_eq_true rfl)⟩
  · skip
    have e9 : mnode n F len st sl dp k 1 = if (k : Int) = 0 then -1 else F k 2 := rfl
    rw [e9]
    refine Ev.iload_n (pc := 16) (n := (0, 0)) (i := 2) dX7_nodeValue_16 rfl rfl ?_
    refine Ev.tableIn (pc := 17) (n := (0, 0)) (off := 70) (tgt := 87) dX7_nodeValue_17 (by omega) (by omega) (by rfl) rfl ?_
    refine Ev.iload_n (pc := 87) (n := (0, 0)) (i := 1) dX7_nodeValue_87 rfl rfl ?_
    refine Ev.if_ne (pc := 88) (n := (0, 0)) (tgt := 95) dX7_nodeValue_88 rfl (fun h2 => ?_) (fun h2 => ?_)
    · skip
      rw [if_neg h2]
      refine Ev.aload_n (pc := 95) (n := (0, 0)) (i := 0) dX7_nodeValue_95 rfl rfl ?_
      refine Ev.iload_n (pc := 96) (n := (0, 0)) (i := 1) dX7_nodeValue_96 rfl rfl ?_
      refine Ev.iconst (pc := 97) (n := (0, 0)) dX7_nodeValue_97 ?_
      refine Ev.iload_n (pc := 98) (n := (0, 0)) (i := 2) dX7_nodeValue_98 rfl rfl ?_
      refine Ev.iadd (pc := 99) (n := (0, 0)) dX7_nodeValue_99 ⟨by omega, by omega⟩ ?_
      refine Ev.iconst (pc := 100) (n := (0, 0)) dX7_nodeValue_100 ?_
      refine Ev.isub (pc := 101) (n := (0, 0)) dX7_nodeValue_101 ⟨by omega, by omega⟩ ?_
      refine Ev.callV (pc := 102) (n := (0, 0)) (ob := 260) (as := [zi (k : Int), zi ((2 + 1) - 1)]) (st := []) (s_ofF hR ⟨by omega, by omega⟩ ⟨by decide, by decide⟩) dX7_nodeValue_102 ok_X7_of (lk_X7_49 rfl) ⟨(Nat.le_of_ble_eq_true rfl), (Nat.le_of_ble_eq_true rfl)⟩ (zk_at hR.1 rfl) ⟨by decide, rfl⟩ rfl (Nat.le_of_ble_eq_true rfl) (Nat.le_of_ble_eq_true rfl) ⟨(Nat.le_of_ble_eq_true rfl), (Nat.le_of_ble_eq_true rfl)⟩ ?_
      exact Ev.iret dX7_nodeValue_105 rfl ⟨(Nat.le_of_ble_eq_true rfl), (Nat.le_of_ble_eq_true rfl)⟩
    · skip
      rw [if_pos h2]
      refine Ev.iconst (pc := 91) (n := (0, 0)) dX7_nodeValue_91 ?_
      refine Ev.goto (pc := 92) (n := (0, 0)) (tgt := 105) dX7_nodeValue_92 rfl ?_
      exact Ev.iret dX7_nodeValue_105 rfl ⟨(Nat.le_of_ble_eq_true rfl), (Nat.le_of_ble_eq_true rfl)⟩
  · skip
    have e9 : mnode n F len st sl dp k 2 = if (k : Int) = 0 then -1 else F k 3 := rfl
    rw [e9]
    refine Ev.iload_n (pc := 16) (n := (0, 0)) (i := 2) dX7_nodeValue_16 rfl rfl ?_
    refine Ev.tableIn (pc := 17) (n := (0, 0)) (off := 70) (tgt := 87) dX7_nodeValue_17 (by omega) (by omega) (by rfl) rfl ?_
    refine Ev.iload_n (pc := 87) (n := (0, 0)) (i := 1) dX7_nodeValue_87 rfl rfl ?_
    refine Ev.if_ne (pc := 88) (n := (0, 0)) (tgt := 95) dX7_nodeValue_88 rfl (fun h2 => ?_) (fun h2 => ?_)
    · skip
      rw [if_neg h2]
      refine Ev.aload_n (pc := 95) (n := (0, 0)) (i := 0) dX7_nodeValue_95 rfl rfl ?_
      refine Ev.iload_n (pc := 96) (n := (0, 0)) (i := 1) dX7_nodeValue_96 rfl rfl ?_
      refine Ev.iconst (pc := 97) (n := (0, 0)) dX7_nodeValue_97 ?_
      refine Ev.iload_n (pc := 98) (n := (0, 0)) (i := 2) dX7_nodeValue_98 rfl rfl ?_
      refine Ev.iadd (pc := 99) (n := (0, 0)) dX7_nodeValue_99 ⟨by omega, by omega⟩ ?_
      refine Ev.iconst (pc := 100) (n := (0, 0)) dX7_nodeValue_100 ?_
      refine Ev.isub (pc := 101) (n := (0, 0)) dX7_nodeValue_101 ⟨by omega, by omega⟩ ?_
      refine Ev.callV (pc := 102) (n := (0, 0)) (ob := 260) (as := [zi (k : Int), zi ((2 + 2) - 1)]) (st := []) (s_ofF hR ⟨by omega, by omega⟩ ⟨by decide, by decide⟩) dX7_nodeValue_102 ok_X7_of (lk_X7_49 rfl) ⟨(Nat.le_of_ble_eq_true rfl), (Nat.le_of_ble_eq_true rfl)⟩ (zk_at hR.1 rfl) ⟨by decide, rfl⟩ rfl (Nat.le_of_ble_eq_true rfl) (Nat.le_of_ble_eq_true rfl) ⟨(Nat.le_of_ble_eq_true rfl), (Nat.le_of_ble_eq_true rfl)⟩ ?_
      exact Ev.iret dX7_nodeValue_105 rfl ⟨(Nat.le_of_ble_eq_true rfl), (Nat.le_of_ble_eq_true rfl)⟩
    · skip
      rw [if_pos h2]
      refine Ev.iconst (pc := 91) (n := (0, 0)) dX7_nodeValue_91 ?_
      refine Ev.goto (pc := 92) (n := (0, 0)) (tgt := 105) dX7_nodeValue_92 rfl ?_
      exact Ev.iret dX7_nodeValue_105 rfl ⟨(Nat.le_of_ble_eq_true rfl), (Nat.le_of_ble_eq_true rfl)⟩
  · skip
    have e9 : mnode n F len st sl dp k 3 = if (k : Int) = 0 then -1 else F k 4 := rfl
    rw [e9]
    refine Ev.iload_n (pc := 16) (n := (0, 0)) (i := 2) dX7_nodeValue_16 rfl rfl ?_
    refine Ev.tableIn (pc := 17) (n := (0, 0)) (off := 70) (tgt := 87) dX7_nodeValue_17 (by omega) (by omega) (by rfl) rfl ?_
    refine Ev.iload_n (pc := 87) (n := (0, 0)) (i := 1) dX7_nodeValue_87 rfl rfl ?_
    refine Ev.if_ne (pc := 88) (n := (0, 0)) (tgt := 95) dX7_nodeValue_88 rfl (fun h2 => ?_) (fun h2 => ?_)
    · skip
      rw [if_neg h2]
      refine Ev.aload_n (pc := 95) (n := (0, 0)) (i := 0) dX7_nodeValue_95 rfl rfl ?_
      refine Ev.iload_n (pc := 96) (n := (0, 0)) (i := 1) dX7_nodeValue_96 rfl rfl ?_
      refine Ev.iconst (pc := 97) (n := (0, 0)) dX7_nodeValue_97 ?_
      refine Ev.iload_n (pc := 98) (n := (0, 0)) (i := 2) dX7_nodeValue_98 rfl rfl ?_
      refine Ev.iadd (pc := 99) (n := (0, 0)) dX7_nodeValue_99 ⟨by omega, by omega⟩ ?_
      refine Ev.iconst (pc := 100) (n := (0, 0)) dX7_nodeValue_100 ?_
      refine Ev.isub (pc := 101) (n := (0, 0)) dX7_nodeValue_101 ⟨by omega, by omega⟩ ?_
      refine Ev.callV (pc := 102) (n := (0, 0)) (ob := 260) (as := [zi (k : Int), zi ((2 + 3) - 1)]) (st := []) (s_ofF hR ⟨by omega, by omega⟩ ⟨by decide, by decide⟩) dX7_nodeValue_102 ok_X7_of (lk_X7_49 rfl) ⟨(Nat.le_of_ble_eq_true rfl), (Nat.le_of_ble_eq_true rfl)⟩ (zk_at hR.1 rfl) ⟨by decide, rfl⟩ rfl (Nat.le_of_ble_eq_true rfl) (Nat.le_of_ble_eq_true rfl) ⟨(Nat.le_of_ble_eq_true rfl), (Nat.le_of_ble_eq_true rfl)⟩ ?_
      exact Ev.iret dX7_nodeValue_105 rfl ⟨(Nat.le_of_ble_eq_true rfl), (Nat.le_of_ble_eq_true rfl)⟩
    · skip
      rw [if_pos h2]
      refine Ev.iconst (pc := 91) (n := (0, 0)) dX7_nodeValue_91 ?_
      refine Ev.goto (pc := 92) (n := (0, 0)) (tgt := 105) dX7_nodeValue_92 rfl ?_
      exact Ev.iret dX7_nodeValue_105 rfl ⟨(Nat.le_of_ble_eq_true rfl), (Nat.le_of_ble_eq_true rfl)⟩
  · skip
    have e9 : mnode n F len st sl dp k 4 = if F k 1 = 1 then F k 5 else -1 := rfl
    rw [e9]
    refine Ev.iload_n (pc := 16) (n := (0, 0)) (i := 2) dX7_nodeValue_16 rfl rfl ?_
    refine Ev.tableIn (pc := 17) (n := (0, 0)) (off := 89) (tgt := 106) dX7_nodeValue_17 (by omega) (by omega) (by rfl) rfl ?_
    refine Ev.iload_n (pc := 106) (n := (0, 0)) (i := 3) dX7_nodeValue_106 rfl rfl ?_
    refine Ev.if_eq (pc := 107) (n := (0, 0)) (tgt := 119) dX7_nodeValue_107 rfl (fun h2 => ?_) (fun h2 => ?_)
    · skip
      rw [if_neg (fun e => by have := ht1 e; omega)]
      refine Ev.iconst (pc := 119) (n := (0, 0)) dX7_nodeValue_119 ?_
      exact Ev.iret dX7_nodeValue_120 rfl ⟨(Nat.le_of_ble_eq_true rfl), (Nat.le_of_ble_eq_true rfl)⟩
    · skip
      rw [if_pos (Classical.byContradiction fun e => h2 (ht0 e))]
      refine Ev.aload_n (pc := 110) (n := (0, 0)) (i := 0) dX7_nodeValue_110 rfl rfl ?_
      refine Ev.iload_n (pc := 111) (n := (0, 0)) (i := 1) dX7_nodeValue_111 rfl rfl ?_
      refine Ev.iconst (pc := 112) (n := (0, 0)) dX7_nodeValue_112 ?_
      refine Ev.callV (pc := 113) (n := (0, 0)) (ob := 260) (as := [zi (k : Int), zi 5]) (st := []) (s_ofF hR ⟨by omega, by omega⟩ ⟨by decide, by decide⟩) dX7_nodeValue_113 ok_X7_of (lk_X7_49 rfl) ⟨(Nat.le_of_ble_eq_true rfl), (Nat.le_of_ble_eq_true rfl)⟩ (zk_at hR.1 rfl) ⟨by decide, rfl⟩ rfl (Nat.le_of_ble_eq_true rfl) (Nat.le_of_ble_eq_true rfl) ⟨(Nat.le_of_ble_eq_true rfl), (Nat.le_of_ble_eq_true rfl)⟩ ?_
      refine Ev.goto (pc := 116) (n := (0, 0)) (tgt := 120) dX7_nodeValue_116 rfl ?_
      exact Ev.iret dX7_nodeValue_120 rfl ⟨(Nat.le_of_ble_eq_true rfl), (Nat.le_of_ble_eq_true rfl)⟩
  · skip
    have e9 : mnode n F len st sl dp k 5 = if F k 1 = 1 then F k 6 else -1 := rfl
    rw [e9]
    refine Ev.iload_n (pc := 16) (n := (0, 0)) (i := 2) dX7_nodeValue_16 rfl rfl ?_
    refine Ev.tableIn (pc := 17) (n := (0, 0)) (off := 104) (tgt := 121) dX7_nodeValue_17 (by omega) (by omega) (by rfl) rfl ?_
    refine Ev.iload_n (pc := 121) (n := (0, 0)) (i := 3) dX7_nodeValue_121 rfl rfl ?_
    refine Ev.if_eq (pc := 122) (n := (0, 0)) (tgt := 135) dX7_nodeValue_122 rfl (fun h2 => ?_) (fun h2 => ?_)
    · skip
      rw [if_neg (fun e => by have := ht1 e; omega)]
      refine Ev.iconst (pc := 135) (n := (0, 0)) dX7_nodeValue_135 ?_
      exact Ev.iret dX7_nodeValue_136 rfl ⟨(Nat.le_of_ble_eq_true rfl), (Nat.le_of_ble_eq_true rfl)⟩
    · skip
      rw [if_pos (Classical.byContradiction fun e => h2 (ht0 e))]
      refine Ev.aload_n (pc := 125) (n := (0, 0)) (i := 0) dX7_nodeValue_125 rfl rfl ?_
      refine Ev.iload_n (pc := 126) (n := (0, 0)) (i := 1) dX7_nodeValue_126 rfl rfl ?_
      refine Ev.bipush (pc := 127) (n := (0, 0)) dX7_nodeValue_127 ?_
      refine Ev.callV (pc := 129) (n := (0, 0)) (ob := 260) (as := [zi (k : Int), zi 6]) (st := []) (s_ofF hR ⟨by omega, by omega⟩ ⟨by decide, by decide⟩) dX7_nodeValue_129 ok_X7_of (lk_X7_49 rfl) ⟨(Nat.le_of_ble_eq_true rfl), (Nat.le_of_ble_eq_true rfl)⟩ (zk_at hR.1 rfl) ⟨by decide, rfl⟩ rfl (Nat.le_of_ble_eq_true rfl) (Nat.le_of_ble_eq_true rfl) ⟨(Nat.le_of_ble_eq_true rfl), (Nat.le_of_ble_eq_true rfl)⟩ ?_
      refine Ev.goto (pc := 132) (n := (0, 0)) (tgt := 136) dX7_nodeValue_132 rfl ?_
      exact Ev.iret dX7_nodeValue_136 rfl ⟨(Nat.le_of_ble_eq_true rfl), (Nat.le_of_ble_eq_true rfl)⟩
  · skip
    have e9 : mnode n F len st sl dp k 6 = len k := rfl
    rw [e9]
    refine Ev.iload_n (pc := 16) (n := (0, 0)) (i := 2) dX7_nodeValue_16 rfl rfl ?_
    refine Ev.tableIn (pc := 17) (n := (0, 0)) (off := 120) (tgt := 137) dX7_nodeValue_17 (by omega) (by omega) (by rfl) rfl ?_
    refine Ev.aload_n (pc := 137) (n := (0, 0)) (i := 0) dX7_nodeValue_137 rfl rfl ?_
    refine Ev.gR (pc := 138) (n := (0, 0)) (r := (some 263)) dX7_nodeValue_138 fl_X7_16 (zk_at hR.1 rfl) rfl hR.2.2.2.1 ?_
    refine Ev.iload_n (pc := 141) (n := (0, 0)) (i := 1) dX7_nodeValue_141 rfl rfl ?_
    refine Ev.ia (pc := 142) (n := (0, 0)) (x := (len k)) dX7_nodeValue_142 (zk_at hR.1 rfl) (by omega) (by omega) ((congrFun (zrw_o I F (by decide)) k).trans hA9.1) ?_
    exact Ev.iret dX7_nodeValue_143 rfl ⟨(Nat.le_of_ble_eq_true rfl), (Nat.le_of_ble_eq_true rfl)⟩
  · skip
    have e9 : mnode n F len st sl dp k 7 = st k := rfl
    rw [e9]
    refine Ev.iload_n (pc := 16) (n := (0, 0)) (i := 2) dX7_nodeValue_16 rfl rfl ?_
    refine Ev.tableIn (pc := 17) (n := (0, 0)) (off := 127) (tgt := 144) dX7_nodeValue_17 (by omega) (by omega) (by rfl) rfl ?_
    refine Ev.aload_n (pc := 144) (n := (0, 0)) (i := 0) dX7_nodeValue_144 rfl rfl ?_
    refine Ev.gR (pc := 145) (n := (0, 0)) (r := (some 264)) dX7_nodeValue_145 fl_X7_19 (zk_at hR.1 rfl) rfl hR.2.2.2.2.1 ?_
    refine Ev.iload_n (pc := 148) (n := (0, 0)) (i := 1) dX7_nodeValue_148 rfl rfl ?_
    refine Ev.ia (pc := 149) (n := (0, 0)) (x := (st k)) dX7_nodeValue_149 (zk_at hR.1 rfl) (by omega) (by omega) ((congrFun (zrw_o I F (by decide)) k).trans hA9.2.1) ?_
    exact Ev.iret dX7_nodeValue_150 rfl ⟨(Nat.le_of_ble_eq_true rfl), (Nat.le_of_ble_eq_true rfl)⟩
  · skip
    have e9 : mnode n F len st sl dp k 8 = st k + sl k := rfl
    rw [e9]
    refine Ev.iload_n (pc := 16) (n := (0, 0)) (i := 2) dX7_nodeValue_16 rfl rfl ?_
    refine Ev.tableIn (pc := 17) (n := (0, 0)) (off := 134) (tgt := 151) dX7_nodeValue_17 (by omega) (by omega) (by rfl) rfl ?_
    refine Ev.aload_n (pc := 151) (n := (0, 0)) (i := 0) dX7_nodeValue_151 rfl rfl ?_
    refine Ev.gR (pc := 152) (n := (0, 0)) (r := (some 264)) dX7_nodeValue_152 fl_X7_19 (zk_at hR.1 rfl) rfl hR.2.2.2.2.1 ?_
    refine Ev.iload_n (pc := 155) (n := (0, 0)) (i := 1) dX7_nodeValue_155 rfl rfl ?_
    refine Ev.ia (pc := 156) (n := (0, 0)) (x := (st k)) dX7_nodeValue_156 (zk_at hR.1 rfl) (by omega) (by omega) ((congrFun (zrw_o I F (by decide)) k).trans hA9.2.1) ?_
    refine Ev.aload_n (pc := 157) (n := (0, 0)) (i := 0) dX7_nodeValue_157 rfl rfl ?_
    refine Ev.gR (pc := 158) (n := (0, 0)) (r := (some 265)) dX7_nodeValue_158 fl_X7_22 (zk_at hR.1 rfl) rfl hR.2.2.2.2.2.1 ?_
    refine Ev.iload_n (pc := 161) (n := (0, 0)) (i := 1) dX7_nodeValue_161 rfl rfl ?_
    refine Ev.ia (pc := 162) (n := (0, 0)) (x := (sl k)) dX7_nodeValue_162 (zk_at hR.1 rfl) (by omega) (by omega) ((congrFun (zrw_o I F (by decide)) k).trans hA9.2.2.1) ?_
    refine Ev.iadd (pc := 163) (n := (0, 0)) dX7_nodeValue_163 ⟨by omega, by omega⟩ ?_
    exact Ev.iret dX7_nodeValue_164 rfl ⟨(Nat.le_of_ble_eq_true rfl), (Nat.le_of_ble_eq_true rfl)⟩
  · skip
    have e9 : mnode n F len st sl dp k 9 = sl k := rfl
    rw [e9]
    refine Ev.iload_n (pc := 16) (n := (0, 0)) (i := 2) dX7_nodeValue_16 rfl rfl ?_
    refine Ev.tableIn (pc := 17) (n := (0, 0)) (off := 148) (tgt := 165) dX7_nodeValue_17 (by omega) (by omega) (by rfl) rfl ?_
    refine Ev.aload_n (pc := 165) (n := (0, 0)) (i := 0) dX7_nodeValue_165 rfl rfl ?_
    refine Ev.gR (pc := 166) (n := (0, 0)) (r := (some 265)) dX7_nodeValue_166 fl_X7_22 (zk_at hR.1 rfl) rfl hR.2.2.2.2.2.1 ?_
    refine Ev.iload_n (pc := 169) (n := (0, 0)) (i := 1) dX7_nodeValue_169 rfl rfl ?_
    refine Ev.ia (pc := 170) (n := (0, 0)) (x := (sl k)) dX7_nodeValue_170 (zk_at hR.1 rfl) (by omega) (by omega) ((congrFun (zrw_o I F (by decide)) k).trans hA9.2.2.1) ?_
    exact Ev.iret dX7_nodeValue_171 rfl ⟨(Nat.le_of_ble_eq_true rfl), (Nat.le_of_ble_eq_true rfl)⟩
  · skip
    have e9 : mnode n F len st sl dp k 10 = if (k : Int) = 0 then 0 else len (zpos n F (F k 2)) - mrl n F len (F k 2) (F k 3) := rfl
    rw [e9]
    refine Ev.iload_n (pc := 16) (n := (0, 0)) (i := 2) dX7_nodeValue_16 rfl rfl ?_
    refine Ev.tableIn (pc := 17) (n := (0, 0)) (off := 155) (tgt := 172) dX7_nodeValue_17 (by omega) (by omega) (by rfl) rfl ?_
    refine Ev.iload_n (pc := 172) (n := (0, 0)) (i := 1) dX7_nodeValue_172 rfl rfl ?_
    refine Ev.if_ne (pc := 173) (n := (0, 0)) (tgt := 180) dX7_nodeValue_173 rfl (fun h2 => ?_) (fun h2 => ?_)
    · skip
      rw [if_neg h2]
      obtain ⟨hr9, -, p, hp, e3, hpg, -⟩ := hw.2.2.2.2.1 k (by omega) hk
      have hf : zpos n F (F k 2) = p := hw.par hp e3.symm
      rw [hf]
      refine Ev.aload_n (pc := 180) (n := (0, 0)) (i := 0) dX7_nodeValue_180 rfl rfl ?_
      refine Ev.aload_n (pc := 181) (n := (0, 0)) (i := 0) dX7_nodeValue_181 rfl rfl ?_
      refine Ev.iload_n (pc := 182) (n := (0, 0)) (i := 1) dX7_nodeValue_182 rfl rfl ?_
      refine Ev.iconst (pc := 183) (n := (0, 0)) dX7_nodeValue_183 ?_
      refine Ev.callV (pc := 184) (n := (0, 0)) (ob := 260) (as := [zi (k : Int), zi 2]) (st := [zr (some 260)]) (s_ofF hR ⟨by omega, by omega⟩ ⟨by decide, by decide⟩) dX7_nodeValue_184 ok_X7_of (lk_X7_49 rfl) ⟨(Nat.le_of_ble_eq_true rfl), (Nat.le_of_ble_eq_true rfl)⟩ (zk_at hR.1 rfl) ⟨by decide, rfl⟩ rfl (Nat.le_of_ble_eq_true rfl) (Nat.le_of_ble_eq_true rfl) ⟨(Nat.le_of_ble_eq_true rfl), (Nat.le_of_ble_eq_true rfl)⟩ ?_
      refine Ev.aload_n (pc := 187) (n := (0, 0)) (i := 0) dX7_nodeValue_187 rfl rfl ?_
      refine Ev.iload_n (pc := 188) (n := (0, 0)) (i := 1) dX7_nodeValue_188 rfl rfl ?_
      refine Ev.iconst (pc := 189) (n := (0, 0)) dX7_nodeValue_189 ?_
      refine Ev.callV (pc := 190) (n := (0, 0)) (ob := 260) (as := [zi (k : Int), zi 3]) (st := [zi (F (k : Int) 2), zr (some 260)]) (s_ofF hR ⟨by omega, by omega⟩ ⟨by decide, by decide⟩) dX7_nodeValue_190 ok_X7_of (lk_X7_49 rfl) ⟨(Nat.le_of_ble_eq_true rfl), (Nat.le_of_ble_eq_true rfl)⟩ (zk_at hR.1 rfl) ⟨by decide, rfl⟩ rfl (Nat.le_of_ble_eq_true rfl) (Nat.le_of_ble_eq_true rfl) ⟨(Nat.le_of_ble_eq_true rfl), (Nat.le_of_ble_eq_true rfl)⟩ ?_
      refine Ev.callV (pc := 193) (n := (0, 0)) (ob := 260) (as := [zi (F (k : Int) 2), zi (F (k : Int) 3)]) (st := []) (s_rowSlackF hR hn hn24 hw hB hl ht hA hf) dX7_nodeValue_193 ok_X7_rowSlack (lk_X7_71 rfl) ⟨(Nat.le_of_ble_eq_true rfl), (Nat.le_of_ble_eq_true rfl)⟩ (zk_at hR.1 rfl) ⟨by decide, rfl⟩ rfl (Nat.le_of_ble_eq_true rfl) (Nat.le_of_ble_eq_true rfl) ⟨(Nat.le_of_ble_eq_true rfl), (Nat.le_of_ble_eq_true rfl)⟩ ?_
      exact Ev.iret dX7_nodeValue_196 rfl ⟨(Nat.le_of_ble_eq_true rfl), (Nat.le_of_ble_eq_true rfl)⟩
    · skip
      rw [if_pos h2]
      refine Ev.iconst (pc := 176) (n := (0, 0)) dX7_nodeValue_176 ?_
      refine Ev.goto (pc := 177) (n := (0, 0)) (tgt := 196) dX7_nodeValue_177 rfl ?_
      exact Ev.iret dX7_nodeValue_196 rfl ⟨(Nat.le_of_ble_eq_true rfl), (Nat.le_of_ble_eq_true rfl)⟩
  · skip
    have e9 : mnode n F len st sl dp k 11 = if sl k = 0 then 1 else 0 := rfl
    rw [e9]
    refine Ev.iload_n (pc := 16) (n := (0, 0)) (i := 2) dX7_nodeValue_16 rfl rfl ?_
    refine Ev.tableIn (pc := 17) (n := (0, 0)) (off := 180) (tgt := 197) dX7_nodeValue_17 (by omega) (by omega) (by rfl) rfl ?_
    refine Ev.aload_n (pc := 197) (n := (0, 0)) (i := 0) dX7_nodeValue_197 rfl rfl ?_
    refine Ev.gR (pc := 198) (n := (0, 0)) (r := (some 265)) dX7_nodeValue_198 fl_X7_22 (zk_at hR.1 rfl) rfl hR.2.2.2.2.2.1 ?_
    refine Ev.iload_n (pc := 201) (n := (0, 0)) (i := 1) dX7_nodeValue_201 rfl rfl ?_
    refine Ev.ia (pc := 202) (n := (0, 0)) (x := (sl k)) dX7_nodeValue_202 (zk_at hR.1 rfl) (by omega) (by omega) ((congrFun (zrw_o I F (by decide)) k).trans hA9.2.2.1) ?_
    refine Ev.if_ne (pc := 203) (n := (0, 0)) (tgt := 210) dX7_nodeValue_203 rfl (fun h2 => ?_) (fun h2 => ?_)
    · skip
      rw [if_neg h2]
      refine Ev.iconst (pc := 210) (n := (0, 0)) dX7_nodeValue_210 ?_
      exact Ev.iret dX7_nodeValue_211 rfl ⟨(Nat.le_of_ble_eq_true rfl), (Nat.le_of_ble_eq_true rfl)⟩
    · skip
      rw [if_pos h2]
      refine Ev.iconst (pc := 206) (n := (0, 0)) dX7_nodeValue_206 ?_
      refine Ev.goto (pc := 207) (n := (0, 0)) (tgt := 211) dX7_nodeValue_207 rfl ?_
      exact Ev.iret dX7_nodeValue_211 rfl ⟨(Nat.le_of_ble_eq_true rfl), (Nat.le_of_ble_eq_true rfl)⟩
  · skip
    have e9 : mnode n F len st sl dp k 12 = dp k := rfl
    rw [e9]
    refine Ev.iload_n (pc := 16) (n := (0, 0)) (i := 2) dX7_nodeValue_16 rfl rfl ?_
    refine Ev.tableOut (pc := 17) (n := (0, 0)) (tgt := 212) dX7_nodeValue_17 (by omega) rfl ?_
    refine Ev.aload_n (pc := 212) (n := (0, 0)) (i := 0) dX7_nodeValue_212 rfl rfl ?_
    refine Ev.gR (pc := 213) (n := (0, 0)) (r := (some 266)) dX7_nodeValue_213 fl_X7_25 (zk_at hR.1 rfl) rfl hR.2.2.2.2.2.2.1 ?_
    refine Ev.iload_n (pc := 216) (n := (0, 0)) (i := 1) dX7_nodeValue_216 rfl rfl ?_
    refine Ev.ia (pc := 217) (n := (0, 0)) (x := (dp k)) dX7_nodeValue_217 (zk_at hR.1 rfl) (by omega) (by omega) ((congrFun (zrw_o I F (by decide)) k).trans hA9.2.2.2) ?_
    exact Ev.iret dX7_nodeValue_218 rfl ⟨(Nat.le_of_ble_eq_true rfl), (Nat.le_of_ble_eq_true rfl)⟩
def mrun (n : Nat) (F : zF) (len st : Int → Int) (t : Int) : Int := zsum (fun k => if (F k 1 = 1 ∧ st k ≤ t) ∧ t < st k + len k then 1 else 0) n
theorem mrun_bd (F : zF) (len st : Int → Int) (t : Int) : ∀ m : Nat, 0 ≤ zsum (fun k => if (F k 1 = 1 ∧ st k ≤ t) ∧ t < st k + len k then 1 else 0) m ∧ zsum (fun k => if (F k 1 = 1 ∧ st k ≤ t) ∧ t < st k + len k then 1 else 0) m ≤ m := by
  intro m
  induction m with
  | zero => exact ⟨Int.le_refl _, Int.le_refl _⟩
  | succ m ih =>
    have e : zsum (fun k => if (F k 1 = 1 ∧ st k ≤ t) ∧ t < st k + len k then 1 else 0) (m + 1) = zsum (fun k => if (F k 1 = 1 ∧ st k ≤ t) ∧ t < st k + len k then 1 else 0) m + (if (F m 1 = 1 ∧ st m ≤ t) ∧ t < st m + len m then 1 else 0) := rfl
    rw [e]
    split <;> omega
theorem s_runningAt_loop {h : zH} {I : Nat → Int → Int} {F : zF} (hR : zRM h) {n : Nat} (hn : I 261 0 = n) (hn24 : n ≤ 24) {dep : Nat → Nat} {B : Int} (hw : WF n F dep B) (hB : 24 * (60 + B) ≤ 1000000000) {len st sl dp : Int → Int} (hl : IsLen n F len) (ht : IsTm n F len st sl dp) (hA : ∀ k : Nat, k < n → I 263 k = len k ∧ I 264 k = st k ∧ I 265 k = sl k ∧ I 266 k = dp k) {t : Int} : ∀ (j k : Nat), k ≤ n → n - k = j → Ev M_X7_runningAt 4 [(0, zr (some 260)), (1, zi t), (2, zi (zsum (fun k => if (F k 1 = 1 ∧ st k ≤ t) ∧ t < st k + len k then 1 else 0) k)), (3, zi (k : Int))] [] (h.1, zrw I F, h.2.2) (0, 0) (.inl (some (zi (mrun n F len st t))), (h.1, zrw I F, h.2.2)) := by
  intro j
  induction j with
  | zero =>
    intro k hk hj
    have hkn : k = n := by omega
    subst hkn
    unfold mrun
    refine Ev.iload_n (pc := 4) (n := (0, 0)) (i := 3) dX7_runningAt_4 rfl rfl ?_
    refine Ev.aload_n (pc := 5) (n := (0, 0)) (i := 0) dX7_runningAt_5 rfl rfl ?_
    refine Ev.gR (pc := 6) (n := (0, 0)) (r := (some 261)) dX7_runningAt_6 fl_X7_7 (zk_at hR.1 rfl) rfl hR.2.1 ?_
    refine Ev.iconst (pc := 9) (n := (0, 0)) dX7_runningAt_9 ?_
    refine Ev.ia (pc := 10) (n := (0, 0)) (x := (k : Int)) dX7_runningAt_10 (zk_at hR.1 rfl) (by omega) (by omega) ((zrw_x I F (by omega)).trans hn) ?_
    refine Ev.icmp_ge (pc := 11) (n := (0, 0)) (tgt := 65) dX7_runningAt_11 rfl (fun hc => ?_) (fun hc => absurd hc (by omega))
    refine Ev.iload_n (pc := 65) (n := (0, 0)) (i := 2) dX7_runningAt_65 rfl rfl ?_
    exact Ev.iret dX7_runningAt_66 rfl ⟨(Nat.le_of_ble_eq_true rfl), (Nat.le_of_ble_eq_true rfl)⟩
  | succ j ih =>
    intro k hk hj
    have hk2 : k < n := by omega
    have hm := mtot_le hw
    have b1 := hl.bd hw k hk2
    have b2 := ht.bd hw hl k hk2
    have b3 : 0 ≤ len 0 ∧ len 0 ≤ mtot n F := hl.bd hw 0 (by omega)
    have hA9 := hA k hk2
    have hs := mrun_bd F len st t k
    have ez : zsum (fun k => if (F k 1 = 1 ∧ st k ≤ t) ∧ t < st k + len k then 1 else 0) (k + 1) = zsum (fun k => if (F k 1 = 1 ∧ st k ≤ t) ∧ t < st k + len k then 1 else 0) k + (if (F k 1 = 1 ∧ st k ≤ t) ∧ t < st k + len k then 1 else 0) := rfl
    have k9 := ih (k + 1) (by omega) (by omega)
    refine Ev.iload_n (pc := 4) (n := (0, 0)) (i := 3) dX7_runningAt_4 rfl rfl ?_
    refine Ev.aload_n (pc := 5) (n := (0, 0)) (i := 0) dX7_runningAt_5 rfl rfl ?_
    refine Ev.gR (pc := 6) (n := (0, 0)) (r := (some 261)) dX7_runningAt_6 fl_X7_7 (zk_at hR.1 rfl) rfl hR.2.1 ?_
    refine Ev.iconst (pc := 9) (n := (0, 0)) dX7_runningAt_9 ?_
    refine Ev.ia (pc := 10) (n := (0, 0)) (x := (n : Int)) dX7_runningAt_10 (zk_at hR.1 rfl) (by omega) (by omega) ((zrw_x I F (by omega)).trans hn) ?_
    refine Ev.icmp_ge (pc := 11) (n := (0, 0)) (tgt := 65) dX7_runningAt_11 rfl (fun hc => absurd hc (by omega)) (fun hc => ?_)
    refine Ev.iload_n (pc := 14) (n := (0, 0)) (i := 2) dX7_runningAt_14 rfl rfl ?_
    refine Ev.aload_n (pc := 15) (n := (0, 0)) (i := 0) dX7_runningAt_15 rfl rfl ?_
    refine Ev.iload_n (pc := 16) (n := (0, 0)) (i := 3) dX7_runningAt_16 rfl rfl ?_
    refine Ev.iconst (pc := 17) (n := (0, 0)) dX7_runningAt_17 ?_
    refine Ev.callV (pc := 18) (n := (0, 0)) (ob := 260) (as := [zi (k : Int), zi 1]) (st := [zi (zsum (fun k => if (F k 1 = 1 ∧ st k ≤ t) ∧ t < st k + len k then 1 else 0) k)]) (s_ofF hR ⟨by omega, by omega⟩ ⟨by decide, by decide⟩) dX7_runningAt_18 ok_X7_of (lk_X7_49 rfl) ⟨(Nat.le_of_ble_eq_true rfl), (Nat.le_of_ble_eq_true rfl)⟩ (zk_at hR.1 rfl) ⟨by decide, rfl⟩ rfl (Nat.le_of_ble_eq_true rfl) (Nat.le_of_ble_eq_true rfl) ⟨(Nat.le_of_ble_eq_true rfl), (Nat.le_of_ble_eq_true rfl)⟩ ?_
    refine Ev.iconst (pc := 21) (n := (0, 0)) dX7_runningAt_21 ?_
    refine Ev.icmp_ne (pc := 22) (n := (0, 0)) (tgt := 56) dX7_runningAt_22 rfl (fun h1 => ?_) (fun h1 => ?_)
    · skip
      rw [if_neg (fun g9 => h1 g9.1.1)] at ez
      refine Ev.iconst (pc := 56) (n := (0, 0)) dX7_runningAt_56 ?_
      refine Ev.iadd (pc := 57) (n := (0, 0)) dX7_runningAt_57 ⟨by omega, by omega⟩ ?_
      refine Ev.istore_n (pc := 58) (n := (0, 0)) (i := 2) (L' := [(2, zi ((zsum (fun k => if (F k 1 = 1 ∧ st k ≤ t) ∧ t < st k + len k then 1 else 0) k) + 0)), (0, zr (some 260)), (1, zi t), (3, zi (k : Int))]) dX7_runningAt_58 rfl (Nat.le_of_ble_eq_true rfl) rfl ?_
      refine Ev.iinc (pc := 59) (n := (0, 0)) (L' := [(3, zi ((k : Int) + 1)), (2, zi ((zsum (fun k => if (F k 1 = 1 ∧ st k ≤ t) ∧ t < st k + len k then 1 else 0) k) + 0)), (0, zr (some 260)), (1, zi t)]) dX7_runningAt_59 rfl (Nat.le_of_ble_eq_true rfl) ⟨by omega, by omega⟩ rfl ?_
      refine Ev.goto (pc := 62) (n := (0, 0)) (tgt := 4) dX7_runningAt_62 rfl ?_
      refine Ev.perm [2, 3, 1, 0] rfl ?_
      rw [ez] at k9
      exact k9
    · skip
      refine Ev.aload_n (pc := 25) (n := (0, 0)) (i := 0) dX7_runningAt_25 rfl rfl ?_
      refine Ev.gR (pc := 26) (n := (0, 0)) (r := (some 264)) dX7_runningAt_26 fl_X7_19 (zk_at hR.1 rfl) rfl hR.2.2.2.2.1 ?_
      refine Ev.iload_n (pc := 29) (n := (0, 0)) (i := 3) dX7_runningAt_29 rfl rfl ?_
      refine Ev.ia (pc := 30) (n := (0, 0)) (x := (st k)) dX7_runningAt_30 (zk_at hR.1 rfl) (by omega) (by omega) ((congrFun (zrw_o I F (by decide)) k).trans hA9.2.1) ?_
      refine Ev.iload_n (pc := 31) (n := (0, 0)) (i := 1) dX7_runningAt_31 rfl rfl ?_
      refine Ev.icmp_gt (pc := 32) (n := (0, 0)) (tgt := 56) dX7_runningAt_32 rfl (fun h2 => ?_) (fun h2 => ?_)
      · skip
        rw [if_neg (fun g9 => absurd g9.1.2 (by omega))] at ez
        refine Ev.iconst (pc := 56) (n := (0, 0)) dX7_runningAt_56 ?_
        refine Ev.iadd (pc := 57) (n := (0, 0)) dX7_runningAt_57 ⟨by omega, by omega⟩ ?_
        refine Ev.istore_n (pc := 58) (n := (0, 0)) (i := 2) (L' := [(2, zi ((zsum (fun k => if (F k 1 = 1 ∧ st k ≤ t) ∧ t < st k + len k then 1 else 0) k) + 0)), (0, zr (some 260)), (1, zi t), (3, zi (k : Int))]) dX7_runningAt_58 rfl (Nat.le_of_ble_eq_true rfl) rfl ?_
        refine Ev.iinc (pc := 59) (n := (0, 0)) (L' := [(3, zi ((k : Int) + 1)), (2, zi ((zsum (fun k => if (F k 1 = 1 ∧ st k ≤ t) ∧ t < st k + len k then 1 else 0) k) + 0)), (0, zr (some 260)), (1, zi t)]) dX7_runningAt_59 rfl (Nat.le_of_ble_eq_true rfl) ⟨by omega, by omega⟩ rfl ?_
        refine Ev.goto (pc := 62) (n := (0, 0)) (tgt := 4) dX7_runningAt_62 rfl ?_
        refine Ev.perm [2, 3, 1, 0] rfl ?_
        rw [ez] at k9
        exact k9
      · skip
        refine Ev.iload_n (pc := 35) (n := (0, 0)) (i := 1) dX7_runningAt_35 rfl rfl ?_
        refine Ev.aload_n (pc := 36) (n := (0, 0)) (i := 0) dX7_runningAt_36 rfl rfl ?_
        refine Ev.gR (pc := 37) (n := (0, 0)) (r := (some 264)) dX7_runningAt_37 fl_X7_19 (zk_at hR.1 rfl) rfl hR.2.2.2.2.1 ?_
        refine Ev.iload_n (pc := 40) (n := (0, 0)) (i := 3) dX7_runningAt_40 rfl rfl ?_
        refine Ev.ia (pc := 41) (n := (0, 0)) (x := (st k)) dX7_runningAt_41 (zk_at hR.1 rfl) (by omega) (by omega) ((congrFun (zrw_o I F (by decide)) k).trans hA9.2.1) ?_
        refine Ev.aload_n (pc := 42) (n := (0, 0)) (i := 0) dX7_runningAt_42 rfl rfl ?_
        refine Ev.gR (pc := 43) (n := (0, 0)) (r := (some 263)) dX7_runningAt_43 fl_X7_16 (zk_at hR.1 rfl) rfl hR.2.2.2.1 ?_
        refine Ev.iload_n (pc := 46) (n := (0, 0)) (i := 3) dX7_runningAt_46 rfl rfl ?_
        refine Ev.ia (pc := 47) (n := (0, 0)) (x := (len k)) dX7_runningAt_47 (zk_at hR.1 rfl) (by omega) (by omega) ((congrFun (zrw_o I F (by decide)) k).trans hA9.1) ?_
        refine Ev.iadd (pc := 48) (n := (0, 0)) dX7_runningAt_48 ⟨by omega, by omega⟩ ?_
        refine Ev.icmp_ge (pc := 49) (n := (0, 0)) (tgt := 56) dX7_runningAt_49 rfl (fun h3 => ?_) (fun h3 => ?_)
        · skip
          rw [if_neg (fun g9 => absurd g9.2 (by omega))] at ez
          refine Ev.iconst (pc := 56) (n := (0, 0)) dX7_runningAt_56 ?_
          refine Ev.iadd (pc := 57) (n := (0, 0)) dX7_runningAt_57 ⟨by omega, by omega⟩ ?_
          refine Ev.istore_n (pc := 58) (n := (0, 0)) (i := 2) (L' := [(2, zi ((zsum (fun k => if (F k 1 = 1 ∧ st k ≤ t) ∧ t < st k + len k then 1 else 0) k) + 0)), (0, zr (some 260)), (1, zi t), (3, zi (k : Int))]) dX7_runningAt_58 rfl (Nat.le_of_ble_eq_true rfl) rfl ?_
          refine Ev.iinc (pc := 59) (n := (0, 0)) (L' := [(3, zi ((k : Int) + 1)), (2, zi ((zsum (fun k => if (F k 1 = 1 ∧ st k ≤ t) ∧ t < st k + len k then 1 else 0) k) + 0)), (0, zr (some 260)), (1, zi t)]) dX7_runningAt_59 rfl (Nat.le_of_ble_eq_true rfl) ⟨by omega, by omega⟩ rfl ?_
          refine Ev.goto (pc := 62) (n := (0, 0)) (tgt := 4) dX7_runningAt_62 rfl ?_
          refine Ev.perm [2, 3, 1, 0] rfl ?_
          rw [ez] at k9
          exact k9
        · skip
          rw [if_pos ⟨⟨h1, by omega⟩, by omega⟩] at ez
          refine Ev.iconst (pc := 52) (n := (0, 0)) dX7_runningAt_52 ?_
          refine Ev.goto (pc := 53) (n := (0, 0)) (tgt := 57) dX7_runningAt_53 rfl ?_
          refine Ev.iadd (pc := 57) (n := (0, 0)) dX7_runningAt_57 ⟨by omega, by omega⟩ ?_
          refine Ev.istore_n (pc := 58) (n := (0, 0)) (i := 2) (L' := [(2, zi ((zsum (fun k => if (F k 1 = 1 ∧ st k ≤ t) ∧ t < st k + len k then 1 else 0) k) + 1)), (0, zr (some 260)), (1, zi t), (3, zi (k : Int))]) dX7_runningAt_58 rfl (Nat.le_of_ble_eq_true rfl) rfl ?_
          refine Ev.iinc (pc := 59) (n := (0, 0)) (L' := [(3, zi ((k : Int) + 1)), (2, zi ((zsum (fun k => if (F k 1 = 1 ∧ st k ≤ t) ∧ t < st k + len k then 1 else 0) k) + 1)), (0, zr (some 260)), (1, zi t)]) dX7_runningAt_59 rfl (Nat.le_of_ble_eq_true rfl) ⟨by omega, by omega⟩ rfl ?_
          refine Ev.goto (pc := 62) (n := (0, 0)) (tgt := 4) dX7_runningAt_62 rfl ?_
          refine Ev.perm [2, 3, 1, 0] rfl ?_
          rw [ez] at k9
          exact k9
theorem s_runningAt {h : zH} {I : Nat → Int → Int} {F : zF} (hR : zRM h) {n : Nat} (hn : I 261 0 = n) (hn24 : n ≤ 24) {dep : Nat → Nat} {B : Int} (hw : WF n F dep B) (hB : 24 * (60 + B) ≤ 1000000000) {len st sl dp : Int → Int} (hl : IsLen n F len) (ht : IsTm n F len st sl dp) (hA : ∀ k : Nat, k < n → I 263 k = len k ∧ I 264 k = st k ∧ I 265 k = sl k ∧ I 266 k = dp k) {t : Int} : Ev M_X7_runningAt 0 [(0, zr (some 260)), (1, zi t)] [] (h.1, zrw I F, h.2.2) (0, 0) (.inl (some (zi (mrun n F len st t))), (h.1, zrw I F, h.2.2)) := by
  refine Ev.iconst (pc := 0) (n := (0, 0)) dX7_runningAt_0 ?_
  refine Ev.istore_n (pc := 1) (n := (0, 0)) (i := 2) (L' := [(2, zi 0), (0, zr (some 260)), (1, zi t)]) dX7_runningAt_1 rfl (Nat.le_of_ble_eq_true rfl) rfl ?_
  refine Ev.iconst (pc := 2) (n := (0, 0)) dX7_runningAt_2 ?_
  refine Ev.istore_n (pc := 3) (n := (0, 0)) (i := 3) (L' := [(3, zi 0), (2, zi 0), (0, zr (some 260)), (1, zi t)]) dX7_runningAt_3 rfl (Nat.le_of_ble_eq_true rfl) rfl ?_
  refine Ev.perm [2, 3, 1, 0] rfl ?_
  exact s_runningAt_loop hR hn hn24 hw hB hl ht hA n 0 (by omega) (by omega)
