def zmix (h v : Int) : Int := zw (zw (31 * h) + v)
def zfold (g : Int → Int) (h : Int) : Nat → Int
  | 0 => h
  | m + 1 => zmix (zfold g h m) (g m)
def gNode (n : Nat) (F : zF) (len st sl dp : Int → Int) (k : Nat) : Int → Int := fun w => mnode n F len st sl dp k w
def gRow (n : Nat) (F : zF) (len sl : Int → Int) (k : Nat) : Int → Int := fun c => mrow n F len sl k (F k 0) (c / 4) (c % 4)
def dNode (n : Nat) (F : zF) (len st sl dp : Int → Int) (k : Nat) (h : Int) : Int := if F k 1 = 0 then zfold (gRow n F len sl k) (zfold (gNode n F len st sl dp k) (zmix h (F k 0)) 13) 16 else zfold (gNode n F len st sl dp k) (zmix h (F k 0)) 13
def dNodes (n : Nat) (F : zF) (len st sl dp : Int → Int) (h : Int) : Nat → Int
  | 0 => h
  | k + 1 => dNode n F len st sl dp k (dNodes n F len st sl dp h k)
def gCrit (F : zF) (A : Nat → Nat) : Int → Int := fun j => F (A j.toNat) 0
def gWh (n : Nat) (F : zF) (len st sl : Int → Int) (dl ad : Int) (m : Nat) (lg : Int) : Int → Int := fun w => mwh n F len st sl dl ad m lg w
def mdig (n : Nat) (F : zF) (len st sl dp : Int → Int) (dl ad : Int) (m : Nat) (lg : Int) (A : Nat → Nat) (kp c : Int) : Int := zmix (zfold (gCrit F A) (dNodes n F len st sl dp (zfold (gWh n F len st sl dl ad m lg) (zmix 43828 kp) 12) n) m) c
theorem zup_id {I : Nat → Int → Int} {a : Nat} {k v : Int} (h : I a k = v) : zup I a k v = I := by
  funext o x
  unfold zup
  split
  · rename_i g; rw [g.1, g.2, h]
  · rfl
theorem s_dig1 {h : zH} {F : zF} (hR : zRM h) {n : Nat} (hn24 : n ≤ 24) {dep : Nat → Nat} {B : Int} (hw : WF n F dep B) (hB : 24 * (60 + B) ≤ 1000000000) {len st sl dp : Int → Int} (hl : IsLen n F len) (ht : IsTm n F len st sl dp) {dl ad lg : Int} (hd2 : 0 ≤ dl ∧ dl ≤ 999) {m : Nat} {A : Nat → Nat} (hC : CritTo F st sl n m A) {d0 : Int} : ∀ (j i : Nat) (I : Nat → Int → Int), I 261 0 = n → I 261 2 = dl → I 261 1 = ad → I 260 4 = lg → I 260 2 = 0 → i ≤ 12 → 12 - i = j → (i = 12 → ∀ x : Nat, x < n → I 263 x = len x ∧ I 264 x = st x ∧ I 265 x = sl x ∧ I 266 x = dp x) → ∃ I2 : Nat → Int → Int, zKeep I I2 ∧ (∀ x : Nat, x < n → I2 263 x = len x ∧ I2 264 x = st x ∧ I2 265 x = sl x ∧ I2 266 x = dp x) ∧ ∀ o : zO, Ev M_X7_digest 42 [(0, zr (some 260)), (1, zl (zfold (gWh n F len st sl dl ad m lg) d0 12)), (3, zi 12)] [] (h.1, zrw I2 F, h.2.2) (0, 0) o → Ev M_X7_digest 17 [(0, zr (some 260)), (1, zl (zfold (gWh n F len st sl dl ad m lg) d0 i)), (3, zi (i : Int))] [] (h.1, zrw I F, h.2.2) (0, 0) o := by
  intro j
  induction j with
  | zero =>
    intro i I hn hd ha hg h2 hi hj hz
    have e : i = 12 := by omega
    subst e
    refine ⟨I, zKeep.rfl' I, hz rfl, fun o hh => ?_⟩
    refine Ev.iload_n (pc := 17) (n := (0, 0)) (i := 3) dX7_digest_17 rfl rfl ?_
    refine Ev.bipush (pc := 18) (n := (0, 0)) dX7_digest_18 ?_
    refine Ev.icmp_ge (pc := 20) (n := (0, 0)) (tgt := 42) dX7_digest_20 rfl (fun hc => ?_) (fun hc => absurd hc (by omega))
    exact hh
  | succ j ih =>
    intro i I hn hd ha hg h2 hi hj hz
    obtain ⟨I1, k1, k2, k3⟩ := s_whole (I := I) (F := F) hR hn hn24 hw hB hl ht hd hd2 ha hg hC (w := (i : Int)) (by omega)
    rw [zup_id h2] at k1
    obtain ⟨I2, q1, q2, q3⟩ := ih (i + 1) I1 (k1.x (by omega) hn) (k1.x (by omega) hd) (k1.x (by omega) ha) ((congrFun (k1.1 260 (by decide)) 4).trans hg) ((congrFun (k1.1 260 (by decide)) 2).trans h2) (by omega) (by omega) (fun _ => k2)
    refine ⟨I2, k1.trans q1, q2, fun o hh => ?_⟩
    have k9 := q3 o hh
    have ez : zfold (gWh n F len st sl dl ad m lg) d0 (i + 1) = zw (zw (31 * zfold (gWh n F len st sl dl ad m lg) d0 i) + mwh n F len st sl dl ad m lg i) := rfl
    rw [ez] at k9
    refine Ev.iload_n (pc := 17) (n := (0, 0)) (i := 3) dX7_digest_17 rfl rfl ?_
    refine Ev.bipush (pc := 18) (n := (0, 0)) dX7_digest_18 ?_
    refine Ev.icmp_ge (pc := 20) (n := (0, 0)) (tgt := 42) dX7_digest_20 rfl (fun hc => absurd hc (by omega)) (fun hc => ?_)
    refine Ev.ldc2 (pc := 23) (n := (0, 0)) (own := "") dX7_digest_23 (lc_X7_260 rfl) ?_
    refine Ev.lload_n (pc := 26) (n := (0, 0)) (i := 1) dX7_digest_26 rfl rfl ?_
    refine Ev.lmul (pc := 27) (n := (0, 0)) dX7_digest_27 ?_
    refine Ev.aload_n (pc := 28) (n := (0, 0)) (i := 0) dX7_digest_28 rfl rfl ?_
    refine Ev.iload_n (pc := 29) (n := (0, 0)) (i := 3) dX7_digest_29 rfl rfl ?_
    refine Ev.callV (pc := 30) (n := (0, 0)) (ob := 260) (as := [zi (i : Int)]) (st := [zl (zw (31 * (zfold (gWh n F len st sl dl ad m lg) d0 i)))]) (k3) dX7_digest_30 ok_X7_whole (lk_X7_262 rfl) ⟨(Nat.le_of_ble_eq_true rfl), (Nat.le_of_ble_eq_true rfl)⟩ (zk_at hR.1 rfl) ⟨by decide, rfl⟩ rfl (Nat.le_of_ble_eq_true rfl) (Nat.le_of_ble_eq_true rfl) ⟨(Nat.le_of_ble_eq_true rfl), (Nat.le_of_ble_eq_true rfl)⟩ ?_
    refine Ev.i2l (pc := 33) (n := (0, 0)) dX7_digest_33 ?_
    refine Ev.ladd (pc := 34) (n := (0, 0)) dX7_digest_34 ?_
    refine Ev.lstore_n (pc := 35) (n := (0, 0)) (i := 1) (L' := [(1, zl (zw ((zw (31 * (zfold (gWh n F len st sl dl ad m lg) d0 i))) + (mwh n F len st sl dl ad m lg (i : Int))))), (0, zr (some 260)), (3, zi (i : Int))]) dX7_digest_35 rfl (Nat.le_of_ble_eq_true rfl) rfl ?_
    refine Ev.iinc (pc := 36) (n := (0, 0)) (L' := [(3, zi ((i : Int) + 1)), (1, zl (zw ((zw (31 * (zfold (gWh n F len st sl dl ad m lg) d0 i))) + (mwh n F len st sl dl ad m lg (i : Int))))), (0, zr (some 260))]) dX7_digest_36 rfl (Nat.le_of_ble_eq_true rfl) ⟨by omega, by omega⟩ rfl ?_
    refine Ev.goto (pc := 39) (n := (0, 0)) (tgt := 17) dX7_digest_39 rfl ?_
    refine Ev.perm [2, 1, 0] rfl ?_
    exact k9
theorem s_dig2a {h : zH} {I : Nat → Int → Int} {F : zF} (hR : zRM h) {n : Nat} (hn : I 261 0 = n) (hn24 : n ≤ 24) {dep : Nat → Nat} {B : Int} (hw : WF n F dep B) (hB : 24 * (60 + B) ≤ 1000000000) {len st sl dp : Int → Int} (hl : IsLen n F len) (ht : IsTm n F len st sl dp) (hA : ∀ k : Nat, k < n → I 263 k = len k ∧ I 264 k = st k ∧ I 265 k = sl k ∧ I 266 k = dp k) {k : Nat} (hk : k < n)  {d0 : Int} : ∀ (j i : Nat), i ≤ 13 → 13 - i = j → ∀ o : zO, Ev M_X7_digest 103 [(0, zr (some 260)), (1, zl (zfold (gNode n F len st sl dp k) d0 13)), (3, zi (k : Int)), (4, zi (F k 0))] [] (h.1, zrw I F, h.2.2) (0, 0) o → Ev M_X7_digest 75 [(0, zr (some 260)), (1, zl (zfold (gNode n F len st sl dp k) d0 i)), (3, zi (k : Int)), (4, zi (F k 0)), (5, zi (i : Int))] [] (h.1, zrw I F, h.2.2) (0, 0) o := by
  intro j
  induction j with
  | zero =>
    intro i hi hj o hh
    have e : i = 13 := by omega
    subst e
    refine Ev.iload (pc := 75) (n := (0, 0)) dX7_digest_75 rfl ?_
    refine Ev.bipush (pc := 77) (n := (0, 0)) dX7_digest_77 ?_
    refine Ev.icmp_ge (pc := 79) (n := (0, 0)) (tgt := 103) dX7_digest_79 rfl (fun hc => ?_) (fun hc => absurd hc (by omega))
    refine Ev.perm [0, 1, 2, 3] rfl ?_
    exact hh
  | succ j ih =>
    intro i hi hj o hh
    have k9 := ih (i + 1) (by omega) (by omega) o hh
    have ez : zfold (gNode n F len st sl dp k) d0 (i + 1) = zw (zw (31 * zfold (gNode n F len st sl dp k) d0 i) + mnode n F len st sl dp k (i : Int)) := rfl
    rw [ez] at k9
    refine Ev.iload (pc := 75) (n := (0, 0)) dX7_digest_75 rfl ?_
    refine Ev.bipush (pc := 77) (n := (0, 0)) dX7_digest_77 ?_
    refine Ev.icmp_ge (pc := 79) (n := (0, 0)) (tgt := 103) dX7_digest_79 rfl (fun hc => absurd hc (by omega)) (fun hc => ?_)
    refine Ev.ldc2 (pc := 82) (n := (0, 0)) (own := "") dX7_digest_82 (lc_X7_260 rfl) ?_
    refine Ev.lload_n (pc := 85) (n := (0, 0)) (i := 1) dX7_digest_85 rfl rfl ?_
    refine Ev.lmul (pc := 86) (n := (0, 0)) dX7_digest_86 ?_
    refine Ev.aload_n (pc := 87) (n := (0, 0)) (i := 0) dX7_digest_87 rfl rfl ?_
    refine Ev.iload_n (pc := 88) (n := (0, 0)) (i := 3) dX7_digest_88 rfl rfl ?_
    refine Ev.iload (pc := 89) (n := (0, 0)) dX7_digest_89 rfl ?_
    refine Ev.callV (pc := 91) (n := (0, 0)) (ob := 260) (as := [zi (k : Int), zi (i : Int)]) (st := [zl (zw (31 * (zfold (gNode n F len st sl dp k) d0 i)))]) (s_nodeValue hR hn hn24 hw hB hl ht hA hk (by omega)) dX7_digest_91 ok_X7_nodeValue (lk_X7_165 rfl) ⟨(Nat.le_of_ble_eq_true rfl), (Nat.le_of_ble_eq_true rfl)⟩ (zk_at hR.1 rfl) ⟨by decide, rfl⟩ rfl (Nat.le_of_ble_eq_true rfl) (Nat.le_of_ble_eq_true rfl) ⟨(Nat.le_of_ble_eq_true rfl), (Nat.le_of_ble_eq_true rfl)⟩ ?_
    refine Ev.i2l (pc := 94) (n := (0, 0)) dX7_digest_94 ?_
    refine Ev.ladd (pc := 95) (n := (0, 0)) dX7_digest_95 ?_
    refine Ev.lstore_n (pc := 96) (n := (0, 0)) (i := 1) (L' := [(1, zl (zw ((zw (31 * (zfold (gNode n F len st sl dp k) d0 i))) + (mnode n F len st sl dp k (i : Int))))), (0, zr (some 260)), (3, zi (k : Int)), (4, zi (F k 0)), (5, zi (i : Int))]) dX7_digest_96 rfl (Nat.le_of_ble_eq_true rfl) rfl ?_
    refine Ev.iinc (pc := 97) (n := (0, 0)) (L' := [(5, zi ((i : Int) + 1)), (1, zl (zw ((zw (31 * (zfold (gNode n F len st sl dp k) d0 i))) + (mnode n F len st sl dp k (i : Int))))), (0, zr (some 260)), (3, zi (k : Int)), (4, zi (F k 0))]) dX7_digest_97 rfl (Nat.le_of_ble_eq_true rfl) ⟨by omega, by omega⟩ rfl ?_
    refine Ev.goto (pc := 100) (n := (0, 0)) (tgt := 75) dX7_digest_100 rfl ?_
    refine Ev.perm [2, 1, 3, 4, 0] rfl ?_
    exact k9
theorem s_dig2b {h : zH} {I : Nat → Int → Int} {F : zF} (hR : zRM h) {n : Nat} (hn : I 261 0 = n) (hn24 : n ≤ 24) {dep : Nat → Nat} {B : Int} (hw : WF n F dep B) (hB : 24 * (60 + B) ≤ 1000000000) {len st sl dp : Int → Int} (hl : IsLen n F len) (ht : IsTm n F len st sl dp) (hA : ∀ k : Nat, k < n → I 263 k = len k ∧ I 264 k = st k ∧ I 265 k = sl k ∧ I 266 k = dp k) {k : Nat} (hk : k < n) (hT : F k 1 = 0) {d0 : Int} : ∀ (j i : Nat), i ≤ 16 → 16 - i = j → ∀ o : zO, Ev M_X7_digest 150 [(0, zr (some 260)), (1, zl (zfold (gRow n F len sl k) d0 16)), (3, zi (k : Int)), (4, zi (F k 0))] [] (h.1, zrw I F, h.2.2) (0, 0) o → Ev M_X7_digest 106 [(0, zr (some 260)), (1, zl (zfold (gRow n F len sl k) d0 i)), (3, zi (k : Int)), (4, zi (F k 0)), (5, zi (i : Int))] [] (h.1, zrw I F, h.2.2) (0, 0) o := by
  intro j
  induction j with
  | zero =>
    intro i hi hj o hh
    have e : i = 16 := by omega
    subst e
    refine Ev.iload (pc := 106) (n := (0, 0)) dX7_digest_106 rfl ?_
    refine Ev.bipush (pc := 108) (n := (0, 0)) dX7_digest_108 ?_
    refine Ev.icmp_ge (pc := 110) (n := (0, 0)) (tgt := 150) dX7_digest_110 rfl (fun hc => ?_) (fun hc => absurd hc (by omega))
    refine Ev.perm [0, 1, 2, 3] rfl ?_
    exact hh
  | succ j ih =>
    intro i hi hj o hh
    have k9 := ih (i + 1) (by omega) (by omega) o hh
    have ez : zfold (gRow n F len sl k) d0 (i + 1) = zw (zw (31 * zfold (gRow n F len sl k) d0 i) + mrow n F len sl k (F k 0) ((i : Int) / 4) ((i : Int) % 4)) := rfl
    rw [ez] at k9
    refine Ev.iload (pc := 106) (n := (0, 0)) dX7_digest_106 rfl ?_
    refine Ev.bipush (pc := 108) (n := (0, 0)) dX7_digest_108 ?_
    refine Ev.icmp_ge (pc := 110) (n := (0, 0)) (tgt := 150) dX7_digest_110 rfl (fun hc => absurd hc (by omega)) (fun hc => ?_)
    refine Ev.aload_n (pc := 113) (n := (0, 0)) (i := 0) dX7_digest_113 rfl rfl ?_
    refine Ev.iload_n (pc := 114) (n := (0, 0)) (i := 3) dX7_digest_114 rfl rfl ?_
    refine Ev.iconst (pc := 115) (n := (0, 0)) dX7_digest_115 ?_
    refine Ev.callV (pc := 116) (n := (0, 0)) (ob := 260) (as := [zi (k : Int), zi 1]) (st := []) (s_ofF hR ⟨by omega, by omega⟩ ⟨by decide, by decide⟩) dX7_digest_116 ok_X7_of (lk_X7_49 rfl) ⟨(Nat.le_of_ble_eq_true rfl), (Nat.le_of_ble_eq_true rfl)⟩ (zk_at hR.1 rfl) ⟨by decide, rfl⟩ rfl (Nat.le_of_ble_eq_true rfl) (Nat.le_of_ble_eq_true rfl) ⟨(Nat.le_of_ble_eq_true rfl), (Nat.le_of_ble_eq_true rfl)⟩ ?_
    refine Ev.if_ne (pc := 119) (n := (0, 0)) (tgt := 150) dX7_digest_119 rfl (fun hc2 => absurd hT hc2) (fun hc2 => ?_)
    refine Ev.ldc2 (pc := 122) (n := (0, 0)) (own := "") dX7_digest_122 (lc_X7_260 rfl) ?_
    refine Ev.lload_n (pc := 125) (n := (0, 0)) (i := 1) dX7_digest_125 rfl rfl ?_
    refine Ev.lmul (pc := 126) (n := (0, 0)) dX7_digest_126 ?_
    refine Ev.aload_n (pc := 127) (n := (0, 0)) (i := 0) dX7_digest_127 rfl rfl ?_
    refine Ev.iload (pc := 128) (n := (0, 0)) dX7_digest_128 rfl ?_
    refine Ev.iload (pc := 130) (n := (0, 0)) dX7_digest_130 rfl ?_
    refine Ev.iconst (pc := 132) (n := (0, 0)) dX7_digest_132 ?_
    refine Ev.idiv (pc := 133) (n := (0, 0)) dX7_digest_133 (by omega) (by omega) ?_
    refine Ev.iload (pc := 134) (n := (0, 0)) dX7_digest_134 rfl ?_
    refine Ev.iconst (pc := 136) (n := (0, 0)) dX7_digest_136 ?_
    refine Ev.irem (pc := 137) (n := (0, 0)) dX7_digest_137 (by omega) (by omega) ?_
    refine Ev.callV (pc := 138) (n := (0, 0)) (ob := 260) (as := [zi (F k 0), zi ((i : Int) / 4), zi ((i : Int) % 4)]) (st := [zl (zw (31 * (zfold (gRow n F len sl k) d0 i)))]) (s_rowValue hR hn hn24 hw hB hl ht hA ((hw.chn 0).pos hk) (by omega)) dX7_digest_138 ok_X7_rowValue (lk_X7_174 rfl) ⟨(Nat.le_of_ble_eq_true rfl), (Nat.le_of_ble_eq_true rfl)⟩ (zk_at hR.1 rfl) ⟨by decide, rfl⟩ rfl (Nat.le_of_ble_eq_true rfl) (Nat.le_of_ble_eq_true rfl) ⟨(Nat.le_of_ble_eq_true rfl), (Nat.le_of_ble_eq_true rfl)⟩ ?_
    refine Ev.i2l (pc := 141) (n := (0, 0)) dX7_digest_141 ?_
    refine Ev.ladd (pc := 142) (n := (0, 0)) dX7_digest_142 ?_
    refine Ev.lstore_n (pc := 143) (n := (0, 0)) (i := 1) (L' := [(1, zl (zw ((zw (31 * (zfold (gRow n F len sl k) d0 i))) + (mrow n F len sl k (F k 0) ((i : Int) / 4) ((i : Int) % 4))))), (0, zr (some 260)), (3, zi (k : Int)), (4, zi (F k 0)), (5, zi (i : Int))]) dX7_digest_143 rfl (Nat.le_of_ble_eq_true rfl) rfl ?_
    refine Ev.iinc (pc := 144) (n := (0, 0)) (L' := [(5, zi ((i : Int) + 1)), (1, zl (zw ((zw (31 * (zfold (gRow n F len sl k) d0 i))) + (mrow n F len sl k (F k 0) ((i : Int) / 4) ((i : Int) % 4))))), (0, zr (some 260)), (3, zi (k : Int)), (4, zi (F k 0))]) dX7_digest_144 rfl (Nat.le_of_ble_eq_true rfl) ⟨by omega, by omega⟩ rfl ?_
    refine Ev.goto (pc := 147) (n := (0, 0)) (tgt := 106) dX7_digest_147 rfl ?_
    refine Ev.perm [2, 1, 3, 4, 0] rfl ?_
    exact k9
theorem s_dig2 {h : zH} {I : Nat → Int → Int} {F : zF} (hR : zRM h) {n : Nat} (hn : I 261 0 = n) (hn24 : n ≤ 24) {dep : Nat → Nat} {B : Int} (hw : WF n F dep B) (hB : 24 * (60 + B) ≤ 1000000000) {len st sl dp : Int → Int} (hl : IsLen n F len) (ht : IsTm n F len st sl dp) (hA : ∀ k : Nat, k < n → I 263 k = len k ∧ I 264 k = st k ∧ I 265 k = sl k ∧ I 266 k = dp k) {d0 : Int} : ∀ (j k : Nat), k ≤ n → n - k = j → ∀ o : zO, Ev M_X7_digest 156 [(0, zr (some 260)), (1, zl (dNodes n F len st sl dp d0 n)), (3, zi (n : Int))] [] (h.1, zrw I F, h.2.2) (0, 0) o → Ev M_X7_digest 44 [(0, zr (some 260)), (1, zl (dNodes n F len st sl dp d0 k)), (3, zi (k : Int))] [] (h.1, zrw I F, h.2.2) (0, 0) o := by
  intro j
  induction j with
  | zero =>
    intro k hk hj o hh
    have e : k = n := by omega
    subst e
    refine Ev.iload_n (pc := 44) (n := (0, 0)) (i := 3) dX7_digest_44 rfl rfl ?_
    refine Ev.aload_n (pc := 45) (n := (0, 0)) (i := 0) dX7_digest_45 rfl rfl ?_
    refine Ev.gR (pc := 46) (n := (0, 0)) (r := (some 261)) dX7_digest_46 fl_X7_7 (zk_at hR.1 rfl) rfl hR.2.1 ?_
    refine Ev.iconst (pc := 49) (n := (0, 0)) dX7_digest_49 ?_
    refine Ev.ia (pc := 50) (n := (0, 0)) (x := (k : Int)) dX7_digest_50 (zk_at hR.1 rfl) (by omega) (by omega) ((zrw_x I F (by omega)).trans hn) ?_
    refine Ev.icmp_ge (pc := 51) (n := (0, 0)) (tgt := 156) dX7_digest_51 rfl (fun hc => ?_) (fun hc => absurd hc (by omega))
    exact hh
  | succ j ih =>
    intro k hk hj o hh
    have hkn : k < n := by omega
    have k9 := ih (k + 1) (by omega) (by omega) o hh
    have ez : dNodes n F len st sl dp d0 (k + 1) = dNode n F len st sl dp k (dNodes n F len st sl dp d0 k) := rfl
    rw [ez] at k9
    unfold dNode at k9
    refine Ev.iload_n (pc := 44) (n := (0, 0)) (i := 3) dX7_digest_44 rfl rfl ?_
    refine Ev.aload_n (pc := 45) (n := (0, 0)) (i := 0) dX7_digest_45 rfl rfl ?_
    refine Ev.gR (pc := 46) (n := (0, 0)) (r := (some 261)) dX7_digest_46 fl_X7_7 (zk_at hR.1 rfl) rfl hR.2.1 ?_
    refine Ev.iconst (pc := 49) (n := (0, 0)) dX7_digest_49 ?_
    refine Ev.ia (pc := 50) (n := (0, 0)) (x := (n : Int)) dX7_digest_50 (zk_at hR.1 rfl) (by omega) (by omega) ((zrw_x I F (by omega)).trans hn) ?_
    refine Ev.icmp_ge (pc := 51) (n := (0, 0)) (tgt := 156) dX7_digest_51 rfl (fun hc => absurd hc (by omega)) (fun hc => ?_)
    refine Ev.aload_n (pc := 54) (n := (0, 0)) (i := 0) dX7_digest_54 rfl rfl ?_
    refine Ev.iload_n (pc := 55) (n := (0, 0)) (i := 3) dX7_digest_55 rfl rfl ?_
    refine Ev.iconst (pc := 56) (n := (0, 0)) dX7_digest_56 ?_
    refine Ev.callV (pc := 57) (n := (0, 0)) (ob := 260) (as := [zi (k : Int), zi 0]) (st := []) (s_ofF hR ⟨by omega, by omega⟩ ⟨by decide, by decide⟩) dX7_digest_57 ok_X7_of (lk_X7_49 rfl) ⟨(Nat.le_of_ble_eq_true rfl), (Nat.le_of_ble_eq_true rfl)⟩ (zk_at hR.1 rfl) ⟨by decide, rfl⟩ rfl (Nat.le_of_ble_eq_true rfl) (Nat.le_of_ble_eq_true rfl) ⟨(Nat.le_of_ble_eq_true rfl), (Nat.le_of_ble_eq_true rfl)⟩ ?_
    refine Ev.istore (pc := 60) (n := (0, 0)) (i := 4) (L' := [(4, zi (F (k : Int) 0)), (0, zr (some 260)), (1, zl (dNodes n F len st sl dp d0 k)), (3, zi (k : Int))]) dX7_digest_60 (Nat.le_of_ble_eq_true rfl) rfl ?_
    refine Ev.ldc2 (pc := 62) (n := (0, 0)) (own := "") dX7_digest_62 (lc_X7_260 rfl) ?_
    refine Ev.lload_n (pc := 65) (n := (0, 0)) (i := 1) dX7_digest_65 rfl rfl ?_
    refine Ev.lmul (pc := 66) (n := (0, 0)) dX7_digest_66 ?_
    refine Ev.iload (pc := 67) (n := (0, 0)) dX7_digest_67 rfl ?_
    refine Ev.i2l (pc := 69) (n := (0, 0)) dX7_digest_69 ?_
    refine Ev.ladd (pc := 70) (n := (0, 0)) dX7_digest_70 ?_
    refine Ev.lstore_n (pc := 71) (n := (0, 0)) (i := 1) (L' := [(1, zl (zw ((zw (31 * (dNodes n F len st sl dp d0 k))) + (F (k : Int) 0)))), (4, zi (F (k : Int) 0)), (0, zr (some 260)), (3, zi (k : Int))]) dX7_digest_71 rfl (Nat.le_of_ble_eq_true rfl) rfl ?_
    refine Ev.iconst (pc := 72) (n := (0, 0)) dX7_digest_72 ?_
    refine Ev.istore (pc := 73) (n := (0, 0)) (i := 5) (L' := [(5, zi 0), (1, zl (zw ((zw (31 * (dNodes n F len st sl dp d0 k))) + (F (k : Int) 0)))), (4, zi (F (k : Int) 0)), (0, zr (some 260)), (3, zi (k : Int))]) dX7_digest_73 (Nat.le_of_ble_eq_true rfl) rfl ?_
    refine Ev.perm [3, 1, 4, 2, 0] rfl ?_
    refine s_dig2a hR hn hn24 hw hB hl ht hA hkn (d0 := (zmix (dNodes n F len st sl dp d0 k) (F k 0))) 13 0 (by omega) (by omega) o ?_
    refine Ev.iconst (pc := 103) (n := (0, 0)) dX7_digest_103 ?_
    refine Ev.istore (pc := 104) (n := (0, 0)) (i := 5) (L' := [(5, zi 0), (0, zr (some 260)), (1, zl (zfold (gNode n F len st sl dp k) (zmix (dNodes n F len st sl dp d0 k) (F k 0)) 13)), (3, zi (k : Int)), (4, zi (F k 0))]) dX7_digest_104 (Nat.le_of_ble_eq_true rfl) rfl ?_
    by_cases hT : F k 1 = 0
    · skip
      rw [if_pos hT] at k9
      refine Ev.perm [1, 2, 3, 4, 0] rfl ?_
      refine s_dig2b hR hn hn24 hw hB hl ht hA hkn hT (d0 := zfold (gNode n F len st sl dp k) (zmix (dNodes n F len st sl dp d0 k) (F k 0)) 13) 16 0 (by omega) (by omega) o ?_
      refine Ev.iinc (pc := 150) (n := (0, 0)) (L' := [(3, zi ((k : Int) + 1)), (0, zr (some 260)), (1, zl (zfold (gRow n F len sl k) (zfold (gNode n F len st sl dp k) (zmix (dNodes n F len st sl dp d0 k) (F k 0)) 13) 16)), (4, zi (F k 0))]) dX7_digest_150 rfl (Nat.le_of_ble_eq_true rfl) ⟨by omega, by omega⟩ rfl ?_
      refine Ev.goto (pc := 153) (n := (0, 0)) (tgt := 44) dX7_digest_153 rfl ?_
      refine Ev.perm [1, 2, 0] rfl ?_
      exact k9
    · skip
      rw [if_neg hT] at k9
      refine Ev.iload (pc := 106) (n := (0, 0)) dX7_digest_106 rfl ?_
      refine Ev.bipush (pc := 108) (n := (0, 0)) dX7_digest_108 ?_
      refine Ev.icmp_ge (pc := 110) (n := (0, 0)) (tgt := 150) dX7_digest_110 rfl (fun hc4 => absurd hc4 (by omega)) (fun hc4 => ?_)
      refine Ev.aload_n (pc := 113) (n := (0, 0)) (i := 0) dX7_digest_113 rfl rfl ?_
      refine Ev.iload_n (pc := 114) (n := (0, 0)) (i := 3) dX7_digest_114 rfl rfl ?_
      refine Ev.iconst (pc := 115) (n := (0, 0)) dX7_digest_115 ?_
      refine Ev.callV (pc := 116) (n := (0, 0)) (ob := 260) (as := [zi (k : Int), zi 1]) (st := []) (s_ofF hR ⟨by omega, by omega⟩ ⟨by decide, by decide⟩) dX7_digest_116 ok_X7_of (lk_X7_49 rfl) ⟨(Nat.le_of_ble_eq_true rfl), (Nat.le_of_ble_eq_true rfl)⟩ (zk_at hR.1 rfl) ⟨by decide, rfl⟩ rfl (Nat.le_of_ble_eq_true rfl) (Nat.le_of_ble_eq_true rfl) ⟨(Nat.le_of_ble_eq_true rfl), (Nat.le_of_ble_eq_true rfl)⟩ ?_
      refine Ev.if_ne (pc := 119) (n := (0, 0)) (tgt := 150) dX7_digest_119 rfl (fun hc5 => ?_) (fun hc5 => absurd hc5 hT)
      refine Ev.iinc (pc := 150) (n := (0, 0)) (L' := [(3, zi ((k : Int) + 1)), (5, zi 0), (0, zr (some 260)), (1, zl (zfold (gNode n F len st sl dp k) (zmix (dNodes n F len st sl dp d0 k) (F k 0)) 13)), (4, zi (F k 0))]) dX7_digest_150 rfl (Nat.le_of_ble_eq_true rfl) ⟨by omega, by omega⟩ rfl ?_
      refine Ev.goto (pc := 153) (n := (0, 0)) (tgt := 44) dX7_digest_153 rfl ?_
      refine Ev.perm [2, 3, 0] rfl ?_
      exact k9
theorem s_dig3 {h : zH} {I : Nat → Int → Int} {F : zF} (hR : zRM h) {n : Nat} (hn : I 261 0 = n) (hn24 : n ≤ 24) {m : Nat} {A : Nat → Nat} (hm : m ≤ n) (hA1 : ∀ j, j < m → A j < n) (hA2 : ∀ j : Nat, j < m → I 270 j = A j) {d0 : Int} : ∀ (j i : Nat), i ≤ m → m - i = j → ∀ o : zO, Ev M_X7_digest 196 [(0, zr (some 260)), (1, zl (zfold (gCrit F A) d0 m))] [] (h.1, zrw I F, h.2.2) (0, 0) o → Ev M_X7_digest 164 [(0, zr (some 260)), (1, zl (zfold (gCrit F A) d0 i)), (3, zi (m : Int)), (4, zi (i : Int))] [] (h.1, zrw I F, h.2.2) (0, 0) o := by
  intro j
  induction j with
  | zero =>
    intro i hi hj o hh
    have e : i = m := by omega
    subst e
    refine Ev.iload (pc := 164) (n := (0, 0)) dX7_digest_164 rfl ?_
    refine Ev.iload_n (pc := 166) (n := (0, 0)) (i := 3) dX7_digest_166 rfl rfl ?_
    refine Ev.icmp_ge (pc := 167) (n := (0, 0)) (tgt := 196) dX7_digest_167 rfl (fun hc => ?_) (fun hc => absurd hc (by omega))
    refine Ev.perm [0, 1] rfl ?_
    exact hh
  | succ j ih =>
    intro i hi hj o hh
    have k9 := ih (i + 1) (by omega) (by omega) o hh
    have ez : zfold (gCrit F A) d0 (i + 1) = zw (zw (31 * zfold (gCrit F A) d0 i) + F (A i) 0) := rfl
    rw [ez] at k9
    have b1 := hA1 i (by omega)
    have v1 : zrw I F 270 (i : Int) = A i := (congrFun (zrw_o I F (by decide)) _).trans (hA2 i (by omega))
    refine Ev.iload (pc := 164) (n := (0, 0)) dX7_digest_164 rfl ?_
    refine Ev.iload_n (pc := 166) (n := (0, 0)) (i := 3) dX7_digest_166 rfl rfl ?_
    refine Ev.icmp_ge (pc := 167) (n := (0, 0)) (tgt := 196) dX7_digest_167 rfl (fun hc => absurd hc (by omega)) (fun hc => ?_)
    refine Ev.ldc2 (pc := 170) (n := (0, 0)) (own := "") dX7_digest_170 (lc_X7_260 rfl) ?_
    refine Ev.lload_n (pc := 173) (n := (0, 0)) (i := 1) dX7_digest_173 rfl rfl ?_
    refine Ev.lmul (pc := 174) (n := (0, 0)) dX7_digest_174 ?_
    refine Ev.aload_n (pc := 175) (n := (0, 0)) (i := 0) dX7_digest_175 rfl rfl ?_
    refine Ev.aload_n (pc := 176) (n := (0, 0)) (i := 0) dX7_digest_176 rfl rfl ?_
    refine Ev.gR (pc := 177) (n := (0, 0)) (r := (some 270)) dX7_digest_177 fl_X7_38 (zk_at hR.1 rfl) rfl hR.2.2.2.2.2.2.2.2.2.2 ?_
    refine Ev.iload (pc := 180) (n := (0, 0)) dX7_digest_180 rfl ?_
    refine Ev.ia (pc := 182) (n := (0, 0)) (x := (A i : Int)) dX7_digest_182 (zk_at hR.1 rfl) (by omega) (by omega) v1 ?_
    refine Ev.iconst (pc := 183) (n := (0, 0)) dX7_digest_183 ?_
    refine Ev.callV (pc := 184) (n := (0, 0)) (ob := 260) (as := [zi (A i : Int), zi 0]) (st := [zl (zw (31 * (zfold (gCrit F A) d0 i)))]) (s_ofF hR ⟨by omega, by omega⟩ ⟨by decide, by decide⟩) dX7_digest_184 ok_X7_of (lk_X7_49 rfl) ⟨(Nat.le_of_ble_eq_true rfl), (Nat.le_of_ble_eq_true rfl)⟩ (zk_at hR.1 rfl) ⟨by decide, rfl⟩ rfl (Nat.le_of_ble_eq_true rfl) (Nat.le_of_ble_eq_true rfl) ⟨(Nat.le_of_ble_eq_true rfl), (Nat.le_of_ble_eq_true rfl)⟩ ?_
    refine Ev.i2l (pc := 187) (n := (0, 0)) dX7_digest_187 ?_
    refine Ev.ladd (pc := 188) (n := (0, 0)) dX7_digest_188 ?_
    refine Ev.lstore_n (pc := 189) (n := (0, 0)) (i := 1) (L' := [(1, zl (zw ((zw (31 * (zfold (gCrit F A) d0 i))) + (F (A i : Int) 0)))), (0, zr (some 260)), (3, zi (m : Int)), (4, zi (i : Int))]) dX7_digest_189 rfl (Nat.le_of_ble_eq_true rfl) rfl ?_
    refine Ev.iinc (pc := 190) (n := (0, 0)) (L' := [(4, zi ((i : Int) + 1)), (1, zl (zw ((zw (31 * (zfold (gCrit F A) d0 i))) + (F (A i : Int) 0)))), (0, zr (some 260)), (3, zi (m : Int))]) dX7_digest_190 rfl (Nat.le_of_ble_eq_true rfl) ⟨by omega, by omega⟩ rfl ?_
    refine Ev.goto (pc := 193) (n := (0, 0)) (tgt := 164) dX7_digest_193 rfl ?_
    refine Ev.perm [2, 1, 3, 0] rfl ?_
    exact k9
theorem s_digest {h : zH} {I : Nat → Int → Int} {F : zF} (hR : zRM h) {n : Nat} (hn : I 261 0 = n) (hn24 : n ≤ 24) {dep : Nat → Nat} {B : Int} (hw : WF n F dep B) (hB : 24 * (60 + B) ≤ 1000000000) {len st sl dp : Int → Int} (hl : IsLen n F len) (ht : IsTm n F len st sl dp) {dl ad lg : Int} (hd2 : 0 ≤ dl ∧ dl ≤ 999) {m : Nat} {A : Nat → Nat} (hC : CritTo F st sl n m A) (hd : I 261 2 = dl) (ha : I 261 1 = ad) (hg : I 260 4 = lg) {kp : Int} (hkp : I 260 1 = kp) {C : Nat → Int} (hCs : IsCuts n F dep B C) : ∃ (I2 : Nat → Int → Int) (c : Int), zKeep (zup I 260 2 0) I2 ∧ IsCut n F C (len 0) 0 c ∧ Ev M_X7_digest 0 [(0, zr (some 260))] [] (h.1, zrw I F, h.2.2) (0, 0) (.inl (some (zl (mdig n F len st sl dp dl ad m lg A kp c))), (h.1, zrw I2 F, h.2.2)) := by
  have hm9 := hC.1
  have hn0 : (zup I 260 2 0) 261 0 = n := (zup_o _ _ _ _ (by decide)).trans hn
  have hkp0 : (zup I 260 2 0) 260 1 = kp := (zup_k _ _ _ _ (by decide)).trans hkp
  obtain ⟨I1, k1, k2, k3⟩ := s_dig1 (F := F) hR hn24 hw hB hl ht hd2 hC (d0 := (zmix 43828 kp)) (dl := dl) (ad := ad) (lg := lg) 12 0 (zup I 260 2 0) hn0 ((zup_o _ _ _ _ (by decide)).trans hd) ((zup_o _ _ _ _ (by decide)).trans ha) ((zup_k _ _ _ _ (by decide)).trans hg) (zup_s _ _ _ _) (by omega) (by omega) (fun e => by omega)
  have hn1 : I1 261 0 = n := k1.x (by omega) hn0
  obtain ⟨I3, m2, A2, q1, q2, q3, -, q4⟩ := s_layCritical (I := I1) (F := F) hR hn1 hn24 hw hB hl ht
  have hu := hC.uniq q2
  have em := hu.1
  subst em
  have hn3 : I3 261 0 = n := q1.x (by omega) hn1
  obtain ⟨I2, c, r1, r2, r3⟩ := s_cutTask (I := I3) (F := F) hR hn3 hn24 hw hB hl ht hCs
  refine ⟨I2, c, k1.trans (q1.trans r1), r2, ?_⟩
  refine Ev.aload_n (pc := 0) (n := (0, 0)) (i := 0) dX7_digest_0 rfl rfl ?_
  refine Ev.iconst (pc := 1) (n := (0, 0)) dX7_digest_1 ?_
  refine Ev.putI (pc := 2) (n := (0, 0)) dX7_digest_2 fl_X7_57 (zk_at hR.1 rfl) rfl rfl (fun h9 => by cases h9) ?_
  refine Ev.hpeq (h' := (h.1, zrw (zup I 260 2 0) F, h.2.2)) (congrArg (fun I9 => (h.1, I9, h.2.2)) (zrw_up2 I F (x := 2) (v := 0) (a := 260) (by decide))) ?_
  refine Ev.ldc2 (pc := 5) (n := (0, 0)) (own := "") dX7_digest_5 (lc_X7_258 rfl) ?_
  refine Ev.aload_n (pc := 8) (n := (0, 0)) (i := 0) dX7_digest_8 rfl rfl ?_
  refine Ev.gI (pc := 9) (n := (0, 0)) (x := kp) dX7_digest_9 fl_X7_41 (zk_at hR.1 rfl) rfl ((congrFun (zrw_o (zup I 260 2 0) F (by decide)) 1).trans hkp0) ?_
  refine Ev.i2l (pc := 12) (n := (0, 0)) dX7_digest_12 ?_
  refine Ev.ladd (pc := 13) (n := (0, 0)) dX7_digest_13 ?_
  refine Ev.lstore_n (pc := 14) (n := (0, 0)) (i := 1) (L' := [(1, zl (zw (1358668 + kp))), (0, zr (some 260))]) dX7_digest_14 rfl (Nat.le_of_ble_eq_true rfl) rfl ?_
  refine Ev.iconst (pc := 15) (n := (0, 0)) dX7_digest_15 ?_
  refine Ev.istore_n (pc := 16) (n := (0, 0)) (i := 3) (L' := [(3, zi 0), (1, zl (zw (1358668 + kp))), (0, zr (some 260))]) dX7_digest_16 rfl (Nat.le_of_ble_eq_true rfl) rfl ?_
  refine Ev.perm [2, 1, 0] rfl ?_
  refine (k3 _ ?_).at ⟨rfl, rfl, rfl, rfl⟩
  refine Ev.iconst (pc := 42) (n := (0, 0)) dX7_digest_42 ?_
  refine Ev.istore_n (pc := 43) (n := (0, 0)) (i := 3) (L' := [(3, zi 0), (0, zr (some 260)), (1, zl (zfold (gWh n F len st sl dl ad m lg) (zmix 43828 kp) 12))]) dX7_digest_43 rfl (Nat.le_of_ble_eq_true rfl) rfl ?_
  refine Ev.perm [1, 2, 0] rfl ?_
  refine s_dig2 hR hn1 hn24 hw hB hl ht k2 (d0 := (zfold (gWh n F len st sl dl ad m lg) (zmix 43828 kp) 12)) n 0 (by omega) (by omega) _ ?_
  refine Ev.aload_n (pc := 156) (n := (0, 0)) (i := 0) dX7_digest_156 rfl rfl ?_
  refine Ev.callV (pc := 157) (n := (0, 0)) (ob := 260) (as := []) (st := []) (q4) dX7_digest_157 ok_X7_layCritical (lk_X7_177 rfl) ⟨(Nat.le_of_ble_eq_true rfl), (Nat.le_of_ble_eq_true rfl)⟩ (zk_at hR.1 rfl) ⟨by decide, rfl⟩ rfl (Nat.le_of_ble_eq_true rfl) (Nat.le_of_ble_eq_true rfl) ⟨(Nat.le_of_ble_eq_true rfl), (Nat.le_of_ble_eq_true rfl)⟩ ?_
  refine Ev.istore_n (pc := 160) (n := (0, 0)) (i := 3) (L' := [(3, zi (m : Int)), (0, zr (some 260)), (1, zl (dNodes n F len st sl dp (zfold (gWh n F len st sl dl ad m lg) (zmix 43828 kp) 12) n))]) dX7_digest_160 rfl (Nat.le_of_ble_eq_true rfl) rfl ?_
  refine Ev.iconst (pc := 161) (n := (0, 0)) dX7_digest_161 ?_
  refine Ev.istore (pc := 162) (n := (0, 0)) (i := 4) (L' := [(4, zi 0), (3, zi (m : Int)), (0, zr (some 260)), (1, zl (dNodes n F len st sl dp (zfold (gWh n F len st sl dl ad m lg) (zmix 43828 kp) 12) n))]) dX7_digest_162 (Nat.le_of_ble_eq_true rfl) rfl ?_
  refine Ev.perm [2, 3, 1, 0] rfl ?_
  refine s_dig3 hR hn3 hn24 hm9 (fun j hj => (hC.2.1 j hj).1) (fun j hj => (q3 j hj).trans (by rw [hu.2 j hj])) (d0 := (dNodes n F len st sl dp (zfold (gWh n F len st sl dl ad m lg) (zmix 43828 kp) 12) n)) m 0 (by omega) (by omega) _ ?_
  refine Ev.ldc2 (pc := 196) (n := (0, 0)) (own := "") dX7_digest_196 (lc_X7_260 rfl) ?_
  refine Ev.lload_n (pc := 199) (n := (0, 0)) (i := 1) dX7_digest_199 rfl rfl ?_
  refine Ev.lmul (pc := 200) (n := (0, 0)) dX7_digest_200 ?_
  refine Ev.aload_n (pc := 201) (n := (0, 0)) (i := 0) dX7_digest_201 rfl rfl ?_
  refine Ev.callV (pc := 202) (n := (0, 0)) (ob := 260) (as := []) (st := [zl (zw (31 * (zfold (gCrit F A) (dNodes n F len st sl dp (zfold (gWh n F len st sl dl ad m lg) (zmix 43828 kp) 12) n) m)))]) (r3) dX7_digest_202 ok_X7_cutTask (lk_X7_198 rfl) ⟨(Nat.le_of_ble_eq_true rfl), (Nat.le_of_ble_eq_true rfl)⟩ (zk_at hR.1 rfl) ⟨by decide, rfl⟩ rfl (Nat.le_of_ble_eq_true rfl) (Nat.le_of_ble_eq_true rfl) ⟨(Nat.le_of_ble_eq_true rfl), (Nat.le_of_ble_eq_true rfl)⟩ ?_
  refine Ev.i2l (pc := 205) (n := (0, 0)) dX7_digest_205 ?_
  refine Ev.ladd (pc := 206) (n := (0, 0)) dX7_digest_206 ?_
  exact Ev.lret dX7_digest_207 rfl ⟨(Nat.le_of_ble_eq_true rfl), (Nat.le_of_ble_eq_true rfl)⟩
