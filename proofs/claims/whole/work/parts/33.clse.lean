/-! ===== the class: what if ===== -/
theorem mres_mono {d r : Int} (hr : 0 ≤ r) {a b : Int} (hab : a ≤ b) : a + mres d r a ≤ b + mres d r b := by
  unfold mres
  repeat' split
  all_goals omega
theorem IsEnds.mono {n : Nat} {F : zF} {dep : Nat → Nat} {B : Int} (hw : WF n F dep B) {k : Nat} (hk : k < n) (hkt : F k 1 = 1) {E : Int → Int} {dep9 : Nat → Nat} {B9 : Int} (hE : IsEnds n F k dep9 B9 E) {a b : Int} (ha : 0 ≤ a) (hab : a ≤ b) (hb : b ≤ 60) : E a ≤ E b := by
  obtain ⟨-, l1, -, -, -, h1, -, e1⟩ := hE a ha (by omega)
  obtain ⟨-, l2, -, -, -, h2, -, e2⟩ := hE b (by omega) hb
  rw [← e1, ← e2]
  refine Oth.mono hw (flast_oth F k a) (flast_oth F k b) h1 h2 hk ?_ 0 (by omega)
  rw [flast_len hk hkt h1, flast_len hk hkt h2]
  exact mres_mono (hw.2.2.2.1 k hk).2.2.1.1 hab
/-- its own duration gives the end as it is -/
theorem IsEnds.own {n : Nat} {F : zF} {dep : Nat → Nat} {B : Int} (hw : WF n F dep B) {len : Int → Int} (hl : IsLen n F len) {k : Nat} (hk : k < n) {E : Int → Int} {dep9 : Nat → Nat} {B9 : Int} (hE : IsEnds n F k dep9 B9 E) : E (F k 5) = len 0 := by
  have hb := (hw.2.2.2.1 k hk).2
  obtain ⟨-, l1, -, -, -, h1, -, e1⟩ := hE (F k 5) hb.1.1 hb.1.2
  have em : mres (F k 5) (F k 6) (F k 5) = F k 6 := by
    unfold mres
    rw [if_neg (show ¬ 0 < F k 5 - F k 5 by omega)]
    split <;> omega
  have ef : flast F k (F k 5) = F := by
    funext o w
    show (if o = k ∧ w = 5 then F k 5 else if o = k ∧ w = 6 then mres (F k 5) (F k 6) (F k 5) else F o w) = F o w
    rw [em]
    split
    · rename_i g; rw [g.1, g.2]
    · split
      · rename_i g; rw [g.1, g.2]
      · rfl
  rw [ef] at h1
  rw [← e1]
  exact IsLen.uniq hw h1 hl 0 (by omega)
theorem IsLen.len0 {n : Nat} {F : zF} {dep : Nat → Nat} {B : Int} (hw : WF n F dep B) {a b : Int → Int} (ha : IsLen n F a) (hb : IsLen n F b) : a 0 = b 0 := ha.uniq hw hb 0 (by have := hw.1.1; omega)
theorem s_greatest_loop {h : zH} {T n : Nat} {F : zF} {ad dl : Int} {ar q : Nat → Nat} (hC : CT h T n F ad dl ar q) {dep : Nat → Nat} {B : Int} (hw : WF n F dep B) (hB : 24 * (60 + B) ≤ 1000000000) {len st sl dp : Int → Int} (hl : IsLen n F len) (ht : IsTm n F len st sl dp) (hP : PLN h n F len st sl dp ar q) {k : Nat} (hk : k < n) (hkt : F k 1 = 1) {E : Int → Int} {dep9 : Nat → Nat} {B9 : Int} (hB9 : 24 * (60 + B9) ≤ 1000000000) (hE : IsEnds n F k dep9 B9 E) {i : Nat} (hi : i < n) (hqi : q i = k) {g : Int} (hg : F k 5 ≤ g ∧ g ≤ 60) (hg9 : (E g ≤ len 0 ∧ ∀ e : Int, g < e → e ≤ 60 → len 0 < E e)) : ∀ (j : Nat) (d : Int), F k 5 ≤ d → d ≤ g → (g - d).toNat = j → Ev M_X5_greatestDuration 5 [(0, zr (some T)), (1, zr (some (ar i))), (2, zi d)] [] h (0, 0) (.inl (some (zi g)), h) := by
  intro j
  have hb := (hw.2.2.2.1 k hk).2
  induction j with
  | zero =>
    intro d h1 h2 hj
    have e : d = g := by omega
    subst e
    by_cases h60 : d = 60
    · skip
      refine Ev.iload_n (pc := 5) (n := (0, 0)) (i := 2) dX5_greatestDuration_5 rfl rfl ?_
      refine Ev.bipush (pc := 6) (n := (0, 0)) dX5_greatestDuration_6 ?_
      refine Ev.icmp_ge (pc := 8) (n := (0, 0)) (tgt := 35) dX5_greatestDuration_8 rfl (fun hc => ?_) (fun hc => absurd hc (by omega))
      refine Ev.iload_n (pc := 35) (n := (0, 0)) (i := 2) dX5_greatestDuration_35 rfl rfl ?_
      exact Ev.iret dX5_greatestDuration_36 rfl ⟨(Nat.le_of_ble_eq_true rfl), (Nat.le_of_ble_eq_true rfl)⟩
    · skip
      have hB0 : F k 6 ≤ 1000000000 := by omega
      refine Ev.iload_n (pc := 5) (n := (0, 0)) (i := 2) dX5_greatestDuration_5 rfl rfl ?_
      refine Ev.bipush (pc := 6) (n := (0, 0)) dX5_greatestDuration_6 ?_
      refine Ev.icmp_ge (pc := 8) (n := (0, 0)) (tgt := 35) dX5_greatestDuration_8 rfl (fun hc => absurd hc (by omega)) (fun hc => ?_)
      refine Ev.aload_n (pc := 11) (n := (0, 0)) (i := 1) dX5_greatestDuration_11 rfl rfl ?_
      refine Ev.aload_n (pc := 12) (n := (0, 0)) (i := 1) dX5_greatestDuration_12 rfl rfl ?_
      refine Ev.iload_n (pc := 13) (n := (0, 0)) (i := 2) dX5_greatestDuration_13 rfl rfl ?_
      refine Ev.iconst (pc := 14) (n := (0, 0)) dX5_greatestDuration_14 ?_
      refine Ev.iadd (pc := 15) (n := (0, 0)) dX5_greatestDuration_15 ⟨by omega, by omega⟩ ?_
      obtain ⟨w9, len9, st9, sl9, dp9, l9, t9, e9⟩ := hE (d + 1) (by omega) (by omega)
      have ev9 : d + 1 + mres (F k 5) (F k 6) (d + 1) = len9 (q i) := by rw [hqi]; exact (flast_len hk hkt l9).symm
      refine Ev.callV (pc := 16) (n := (0, 0)) (ob := (ar i)) (as := [zi (d + 1)]) (st := [zr (some (ar i))]) (s_lengthWith (hC.nd hi) ((hC.c4 hi).trans (by rw [hqi])) ((hC.c5 hi).trans (by rw [hqi])) ⟨hb.1, ⟨hb.2.1.1, by omega⟩, by omega, by omega⟩) dX5_greatestDuration_16 ok_X3_lengthWith (lk_X5_253 rfl) ⟨(Nat.le_of_ble_eq_true rfl), (Nat.le_of_ble_eq_true rfl)⟩ (hC.nd hi).1 ⟨by decide, rfl⟩ rfl (Nat.le_of_ble_eq_true rfl) (Nat.le_of_ble_eq_true rfl) ⟨(Nat.le_of_ble_eq_true rfl), (Nat.le_of_ble_eq_true rfl)⟩ ?_
      rw [ev9]
      refine Ev.callV (pc := 19) (n := (0, 0)) (ob := (ar i)) (as := [zi (len9 (q i))]) (st := []) (s_endIfLength hC hw hB hl ht hP hk hkt (flast_oth F k (d + 1)) w9 hB9 l9 hi hqi rfl) dX5_greatestDuration_19 ok_X3_endIfLength (lk_X5_256 rfl) ⟨(Nat.le_of_ble_eq_true rfl), (Nat.le_of_ble_eq_true rfl)⟩ (hC.nd hi).1 ⟨by decide, rfl⟩ rfl (Nat.le_of_ble_eq_true rfl) (Nat.le_of_ble_eq_true rfl) ⟨(Nat.le_of_ble_eq_true rfl), (Nat.le_of_ble_eq_true rfl)⟩ ?_
      rw [e9]
      refine Ev.aload_n (pc := 22) (n := (0, 0)) (i := 0) dX5_greatestDuration_22 rfl rfl ?_
      refine Ev.callV (pc := 23) (n := (0, 0)) (ob := T) (as := []) (st := [zi (E (d + 1))]) (s_endC hC hP) dX5_greatestDuration_23 ok_X5_end (lk_X5_194 rfl) ⟨(Nat.le_of_ble_eq_true rfl), (Nat.le_of_ble_eq_true rfl)⟩ hC.1.1.1 ⟨by decide, rfl⟩ rfl (Nat.le_of_ble_eq_true rfl) (Nat.le_of_ble_eq_true rfl) ⟨(Nat.le_of_ble_eq_true rfl), (Nat.le_of_ble_eq_true rfl)⟩ ?_
      refine Ev.icmp_gt (pc := 26) (n := (0, 0)) (tgt := 35) dX5_greatestDuration_26 rfl (fun hc => ?_) (fun hc => absurd (hg9.2 (d + 1) (by omega) (by omega)) (by omega))
      refine Ev.iload_n (pc := 35) (n := (0, 0)) (i := 2) dX5_greatestDuration_35 rfl rfl ?_
      exact Ev.iret dX5_greatestDuration_36 rfl ⟨(Nat.le_of_ble_eq_true rfl), (Nat.le_of_ble_eq_true rfl)⟩
  | succ j ih =>
    intro d h1 h2 hj
    have k9 := ih (d + 1) (by omega) (by omega) (by omega)
    have hB0 : F k 6 ≤ 1000000000 := by omega
    have hle : E (d + 1) ≤ len 0 := by
      have := hE.mono hw hk hkt (show 0 ≤ d + 1 by omega) (show d + 1 ≤ g by omega) hg.2
      have := hg9.1
      omega
    refine Ev.iload_n (pc := 5) (n := (0, 0)) (i := 2) dX5_greatestDuration_5 rfl rfl ?_
    refine Ev.bipush (pc := 6) (n := (0, 0)) dX5_greatestDuration_6 ?_
    refine Ev.icmp_ge (pc := 8) (n := (0, 0)) (tgt := 35) dX5_greatestDuration_8 rfl (fun hc => absurd hc (by omega)) (fun hc => ?_)
    refine Ev.aload_n (pc := 11) (n := (0, 0)) (i := 1) dX5_greatestDuration_11 rfl rfl ?_
    refine Ev.aload_n (pc := 12) (n := (0, 0)) (i := 1) dX5_greatestDuration_12 rfl rfl ?_
    refine Ev.iload_n (pc := 13) (n := (0, 0)) (i := 2) dX5_greatestDuration_13 rfl rfl ?_
    refine Ev.iconst (pc := 14) (n := (0, 0)) dX5_greatestDuration_14 ?_
    refine Ev.iadd (pc := 15) (n := (0, 0)) dX5_greatestDuration_15 ⟨by omega, by omega⟩ ?_
    obtain ⟨w9, len9, st9, sl9, dp9, l9, t9, e9⟩ := hE (d + 1) (by omega) (by omega)
    have ev9 : d + 1 + mres (F k 5) (F k 6) (d + 1) = len9 (q i) := by rw [hqi]; exact (flast_len hk hkt l9).symm
    refine Ev.callV (pc := 16) (n := (0, 0)) (ob := (ar i)) (as := [zi (d + 1)]) (st := [zr (some (ar i))]) (s_lengthWith (hC.nd hi) ((hC.c4 hi).trans (by rw [hqi])) ((hC.c5 hi).trans (by rw [hqi])) ⟨hb.1, ⟨hb.2.1.1, by omega⟩, by omega, by omega⟩) dX5_greatestDuration_16 ok_X3_lengthWith (lk_X5_253 rfl) ⟨(Nat.le_of_ble_eq_true rfl), (Nat.le_of_ble_eq_true rfl)⟩ (hC.nd hi).1 ⟨by decide, rfl⟩ rfl (Nat.le_of_ble_eq_true rfl) (Nat.le_of_ble_eq_true rfl) ⟨(Nat.le_of_ble_eq_true rfl), (Nat.le_of_ble_eq_true rfl)⟩ ?_
    rw [ev9]
    refine Ev.callV (pc := 19) (n := (0, 0)) (ob := (ar i)) (as := [zi (len9 (q i))]) (st := []) (s_endIfLength hC hw hB hl ht hP hk hkt (flast_oth F k (d + 1)) w9 hB9 l9 hi hqi rfl) dX5_greatestDuration_19 ok_X3_endIfLength (lk_X5_256 rfl) ⟨(Nat.le_of_ble_eq_true rfl), (Nat.le_of_ble_eq_true rfl)⟩ (hC.nd hi).1 ⟨by decide, rfl⟩ rfl (Nat.le_of_ble_eq_true rfl) (Nat.le_of_ble_eq_true rfl) ⟨(Nat.le_of_ble_eq_true rfl), (Nat.le_of_ble_eq_true rfl)⟩ ?_
    rw [e9]
    refine Ev.aload_n (pc := 22) (n := (0, 0)) (i := 0) dX5_greatestDuration_22 rfl rfl ?_
    refine Ev.callV (pc := 23) (n := (0, 0)) (ob := T) (as := []) (st := [zi (E (d + 1))]) (s_endC hC hP) dX5_greatestDuration_23 ok_X5_end (lk_X5_194 rfl) ⟨(Nat.le_of_ble_eq_true rfl), (Nat.le_of_ble_eq_true rfl)⟩ hC.1.1.1 ⟨by decide, rfl⟩ rfl (Nat.le_of_ble_eq_true rfl) (Nat.le_of_ble_eq_true rfl) ⟨(Nat.le_of_ble_eq_true rfl), (Nat.le_of_ble_eq_true rfl)⟩ ?_
    refine Ev.icmp_gt (pc := 26) (n := (0, 0)) (tgt := 35) dX5_greatestDuration_26 rfl (fun hc => absurd hle (by omega)) (fun hc => ?_)
    refine Ev.iinc (pc := 29) (n := (0, 0)) (L' := [(2, zi (d + 1)), (0, zr (some T)), (1, zr (some (ar i)))]) dX5_greatestDuration_29 rfl (Nat.le_of_ble_eq_true rfl) ⟨by omega, by omega⟩ rfl ?_
    refine Ev.goto (pc := 32) (n := (0, 0)) (tgt := 5) dX5_greatestDuration_32 rfl ?_
    refine Ev.perm [1, 2, 0] rfl ?_
    exact k9
theorem s_greatest {h : zH} {T n : Nat} {F : zF} {ad dl : Int} {ar q : Nat → Nat} (hC : CT h T n F ad dl ar q) {dep : Nat → Nat} {B : Int} (hw : WF n F dep B) (hB : 24 * (60 + B) ≤ 1000000000) {len st sl dp : Int → Int} (hl : IsLen n F len) (ht : IsTm n F len st sl dp) (hP : PLN h n F len st sl dp ar q) {k : Nat} (hk : k < n) (hkt : F k 1 = 1) {E : Int → Int} {dep9 : Nat → Nat} {B9 : Int} (hB9 : 24 * (60 + B9) ≤ 1000000000) (hE : IsEnds n F k dep9 B9 E) {i : Nat} (hi : i < n) (hqi : q i = k) {g : Int} (hg : F k 5 ≤ g ∧ g ≤ 60) (hg9 : (E g ≤ len 0 ∧ ∀ e : Int, g < e → e ≤ 60 → len 0 < E e)) : Ev M_X5_greatestDuration 0 [(0, zr (some T)), (1, zr (some (ar i)))] [] h (0, 0) (.inl (some (zi g)), h) := by
  refine Ev.aload_n (pc := 0) (n := (0, 0)) (i := 1) dX5_greatestDuration_0 rfl rfl ?_
  refine Ev.gI (pc := 1) (n := (0, 0)) (x := (F k 5)) dX5_greatestDuration_1 fl_X5_72 (hC.nd hi).1 rfl ((hC.c4 hi).trans (by rw [hqi])) ?_
  refine Ev.istore_n (pc := 4) (n := (0, 0)) (i := 2) (L' := [(2, zi (F k 5)), (0, zr (some T)), (1, zr (some (ar i)))]) dX5_greatestDuration_4 rfl (Nat.le_of_ble_eq_true rfl) rfl ?_
  refine Ev.perm [1, 2, 0] rfl ?_
  exact s_greatest_loop hC hw hB hl ht hP hk hkt hB9 hE hi hqi hg hg9 _ (F k 5) (by omega) hg.1 rfl
theorem s_cut_in {h : zH} {T n : Nat} {F : zF} {ad dl : Int} {ar q : Nat → Nat} (hC : CT h T n F ad dl ar q) {dep : Nat → Nat} {B : Int} (hw : WF n F dep B) (hB : 24 * (60 + B) ≤ 1000000000) {len st sl dp : Int → Int} (hl : IsLen n F len) (ht : IsTm n F len st sl dp) (hP : PLN h n F len st sl dp ar q) {dep9 : Nat → Nat} {B9 : Int} (hB9 : 24 * (60 + B9) ≤ 1000000000) {C : Nat → Int} (hCs : IsCuts n F dep9 B9 C) {m : Nat} (hmn : m < n) (h1 : F (q m) 1 = 1) (h2 : 0 < F (q m) 5) {r : Option Nat} {o : zO} (kt : C (q m) < len 0 → Ev M_X5_cutNumber 70 [(0, zr (some T)), (1, zr r), (2, zi (m : Int)), (3, zr (some (ar m)))] [] h (0, 0) o) (kf : ¬ C (q m) < len 0 → Ev M_X5_cutNumber 72 [(0, zr (some T)), (1, zr r), (2, zi (m : Int)), (3, zr (some (ar m)))] [] h (0, 0) o) : Ev M_X5_cutNumber 49 [(0, zr (some T)), (1, zr r), (2, zi (m : Int)), (3, zr (some (ar m)))] [] h (0, 0) o := by
  have hq := hC.qlt hmn
  have hb := (hw.2.2.2.1 (q m) hq).2
  have hm := mtot_le hw
  obtain ⟨w9, len9, st9, sl9, dp9, l9, t9, e9⟩ := hCs (q m) hq h1 h2
  have ev9 : F (q m) 5 - 1 + mres (F (q m) 5) (F (q m) 6) (F (q m) 5 - 1) = len9 (q m) := (flast_len hq h1 l9).symm
  refine Ev.aload_n (pc := 49) (n := (0, 0)) (i := 3) dX5_cutNumber_49 rfl rfl ?_
  refine Ev.aload_n (pc := 50) (n := (0, 0)) (i := 3) dX5_cutNumber_50 rfl rfl ?_
  refine Ev.aload_n (pc := 51) (n := (0, 0)) (i := 3) dX5_cutNumber_51 rfl rfl ?_
  refine Ev.gI (pc := 52) (n := (0, 0)) (x := (F (q m) 5)) dX5_cutNumber_52 fl_X5_72 (hC.nd hmn).1 rfl (hC.c4 hmn) ?_
  refine Ev.iconst (pc := 55) (n := (0, 0)) dX5_cutNumber_55 ?_
  refine Ev.isub (pc := 56) (n := (0, 0)) dX5_cutNumber_56 ⟨by omega, by omega⟩ ?_
  refine Ev.callV (pc := 57) (n := (0, 0)) (ob := (ar m)) (as := [zi ((F (q m) 5) - 1)]) (st := [zr (some (ar m))]) (s_lengthWith (hC.nd hmn) (hC.c4 hmn) (hC.c5 hmn) ⟨hb.1, ⟨hb.2.1.1, by omega⟩, by omega, by omega⟩) dX5_cutNumber_57 ok_X3_lengthWith (lk_X5_253 rfl) ⟨(Nat.le_of_ble_eq_true rfl), (Nat.le_of_ble_eq_true rfl)⟩ (hC.nd hmn).1 ⟨by decide, rfl⟩ rfl (Nat.le_of_ble_eq_true rfl) (Nat.le_of_ble_eq_true rfl) ⟨(Nat.le_of_ble_eq_true rfl), (Nat.le_of_ble_eq_true rfl)⟩ ?_
  rw [ev9]
  refine Ev.callV (pc := 60) (n := (0, 0)) (ob := (ar m)) (as := [zi (len9 (q m))]) (st := []) (s_endIfLength hC hw hB hl ht hP hq h1 (flast_oth F (q m) (F (q m) 5 - 1)) w9 hB9 l9 hmn rfl rfl) dX5_cutNumber_60 ok_X3_endIfLength (lk_X5_256 rfl) ⟨(Nat.le_of_ble_eq_true rfl), (Nat.le_of_ble_eq_true rfl)⟩ (hC.nd hmn).1 ⟨by decide, rfl⟩ rfl (Nat.le_of_ble_eq_true rfl) (Nat.le_of_ble_eq_true rfl) ⟨(Nat.le_of_ble_eq_true rfl), (Nat.le_of_ble_eq_true rfl)⟩ ?_
  rw [e9]
  refine Ev.aload_n (pc := 63) (n := (0, 0)) (i := 0) dX5_cutNumber_63 rfl rfl ?_
  refine Ev.callV (pc := 64) (n := (0, 0)) (ob := T) (as := []) (st := [zi (C (q m))]) (s_endC hC hP) dX5_cutNumber_64 ok_X5_end (lk_X5_194 rfl) ⟨(Nat.le_of_ble_eq_true rfl), (Nat.le_of_ble_eq_true rfl)⟩ hC.1.1.1 ⟨by decide, rfl⟩ rfl (Nat.le_of_ble_eq_true rfl) (Nat.le_of_ble_eq_true rfl) ⟨(Nat.le_of_ble_eq_true rfl), (Nat.le_of_ble_eq_true rfl)⟩ ?_
  refine Ev.icmp_ge (pc := 67) (n := (0, 0)) (tgt := 72) dX5_cutNumber_67 rfl (fun h9 => ?_) (fun h9 => ?_)
  · skip
    exact kf (by omega)
  · skip
    exact kt (by omega)
theorem s_cutC_loop {h : zH} {T n : Nat} {F : zF} {ad dl : Int} {ar q : Nat → Nat} (hC : CT h T n F ad dl ar q) {dep : Nat → Nat} {B : Int} (hw : WF n F dep B) (hB : 24 * (60 + B) ≤ 1000000000) {len st sl dp : Int → Int} (hl : IsLen n F len) (ht : IsTm n F len st sl dp) (hP : PLN h n F len st sl dp ar q) {dep9 : Nat → Nat} {B9 : Int} (hB9 : 24 * (60 + B9) ≤ 1000000000) {C : Nat → Int} (hCs : IsCuts n F dep9 B9 C) {c : Int} (hc9 : IsCut n F C (len 0) 0 c) : ∀ (j m : Nat) (r : Option Nat), m ≤ n → n - m = j → ((r = none ∧ ∀ i, i < m → ¬ (F (q i) 1 = 1 ∧ 0 < F (q i) 5 ∧ C (q i) < len 0)) ∨ ∃ b, b < m ∧ r = some (ar b) ∧ (F (q b) 1 = 1 ∧ 0 < F (q b) 5 ∧ C (q b) < len 0) ∧ ∀ i, i < m → (F (q i) 1 = 1 ∧ 0 < F (q i) 5 ∧ C (q i) < len 0) → F (q b) 0 ≤ F (q i) 0) → Ev M_X5_cutNumber 4 [(0, zr (some T)), (1, zr r), (2, zi (m : Int))] [] h (0, 0) (.inl (some (zi c)), h) := by
  intro j
  have hn := hC.n24
  induction j with
  | zero =>
    intro m r hm hj hI
    have e : m = n := by omega
    subst e
    rcases hI with ⟨rfl, ha⟩ | ⟨b, hbm, rfl, hqb, ha⟩
    · have ec : c = -1 := by
        rcases hc9 with ⟨k, -, hk, g1, g2, g3, -⟩ | ⟨e, -⟩
        · obtain ⟨i, hi, e⟩ := hC.onto hk
          rw [← e] at g1 g2 g3
          exact absurd ⟨g1, g2, g3⟩ (ha i hi)
        · exact e
      subst ec
      refine Ev.iload_n (pc := 4) (n := (0, 0)) (i := 2) dX5_cutNumber_4 rfl rfl ?_
      refine Ev.aload_n (pc := 5) (n := (0, 0)) (i := 0) dX5_cutNumber_5 rfl rfl ?_
      refine Ev.gI (pc := 6) (n := (0, 0)) (x := (m : Int)) dX5_cutNumber_6 fl_X5_20 hC.1.1.1 rfl hC.1.2.2.1 ?_
      refine Ev.icmp_ge (pc := 9) (n := (0, 0)) (tgt := 78) dX5_cutNumber_9 rfl (fun hc => ?_) (fun hc => absurd hc (by omega))
      refine Ev.aload_n (pc := 78) (n := (0, 0)) (i := 1) dX5_cutNumber_78 rfl rfl ?_
      refine Ev.ifnonnull (pc := 79) (n := (0, 0)) (tgt := 86) dX5_cutNumber_79 rfl (fun x9 hc => nomatch hc) (fun hc => ?_)
      refine Ev.iconst (pc := 82) (n := (0, 0)) dX5_cutNumber_82 ?_
      refine Ev.goto (pc := 83) (n := (0, 0)) (tgt := 90) dX5_cutNumber_83 rfl ?_
      exact Ev.iret dX5_cutNumber_90 rfl ⟨(Nat.le_of_ble_eq_true rfl), (Nat.le_of_ble_eq_true rfl)⟩
    · have ec : c = F (q b) 0 := by
        rcases hc9 with ⟨k, -, hk, g1, g2, g3, g4, g5⟩ | ⟨-, g⟩
        · obtain ⟨i, hi, e⟩ := hC.onto hk
          rw [← e] at g1 g2 g3 g4
          have h1 := ha i hi ⟨g1, g2, g3⟩
          have h2 : ¬ q b < k := fun g => g5 (q b) (Nat.zero_le _) g hqb
          have h3 : ¬ q i < q b := fun g => by have := hw.2.2.1 (q i) (q b) g (hC.qlt hbm); omega
          have h4 : q i = q b := by omega
          rw [g4, h4]
        · exact absurd hqb (g (q b) (Nat.zero_le _) (hC.qlt hbm))
      subst ec
      refine Ev.iload_n (pc := 4) (n := (0, 0)) (i := 2) dX5_cutNumber_4 rfl rfl ?_
      refine Ev.aload_n (pc := 5) (n := (0, 0)) (i := 0) dX5_cutNumber_5 rfl rfl ?_
      refine Ev.gI (pc := 6) (n := (0, 0)) (x := (m : Int)) dX5_cutNumber_6 fl_X5_20 hC.1.1.1 rfl hC.1.2.2.1 ?_
      refine Ev.icmp_ge (pc := 9) (n := (0, 0)) (tgt := 78) dX5_cutNumber_9 rfl (fun hc => ?_) (fun hc => absurd hc (by omega))
      refine Ev.aload_n (pc := 78) (n := (0, 0)) (i := 1) dX5_cutNumber_78 rfl rfl ?_
      refine Ev.ifnonnull (pc := 79) (n := (0, 0)) (tgt := 86) dX5_cutNumber_79 rfl (fun x9 hc => ?_) (fun hc => nomatch hc)
      refine Ev.aload_n (pc := 86) (n := (0, 0)) (i := 1) dX5_cutNumber_86 rfl rfl ?_
      refine Ev.gI (pc := 87) (n := (0, 0)) (x := (F (q b) 0)) dX5_cutNumber_87 fl_X5_35 (hC.nd hbm).1 rfl (hC.c0 hbm) ?_
      exact Ev.iret dX5_cutNumber_90 rfl ⟨(Nat.le_of_ble_eq_true rfl), (Nat.le_of_ble_eq_true rfl)⟩
  | succ j ih =>
    intro m r hm hj hI
    have hmn : m < n := by omega
    have hq := hC.qlt hmn
    have b0 := hw.2.2.2.1 (q m) hq
    have KN : (¬ (F (q m) 1 = 1 ∧ 0 < F (q m) 5 ∧ C (q m) < len 0) ∨ ∃ b, b < m ∧ r = some (ar b) ∧ F (q b) 0 ≤ F (q m) 0) → ((r = none ∧ ∀ i, i < (m + 1) → ¬ (F (q i) 1 = 1 ∧ 0 < F (q i) 5 ∧ C (q i) < len 0)) ∨ ∃ b, b < (m + 1) ∧ r = some (ar b) ∧ (F (q b) 1 = 1 ∧ 0 < F (q b) 5 ∧ C (q b) < len 0) ∧ ∀ i, i < (m + 1) → (F (q i) 1 = 1 ∧ 0 < F (q i) 5 ∧ C (q i) < len 0) → F (q b) 0 ≤ F (q i) 0) := fun hN => by
      rcases hI with ⟨e, ha⟩ | ⟨b, hbm, e, hqb, ha⟩
      · refine Or.inl ⟨e, fun i hi g => ?_⟩
        by_cases e2 : i = m
        · subst e2
          rcases hN with hN | ⟨b, -, e3, -⟩
          · exact hN g
          · rw [e] at e3; cases e3
        · exact ha i (by omega) g
      · refine Or.inr ⟨b, by omega, e, hqb, fun i hi g => ?_⟩
        by_cases e2 : i = m
        · subst e2
          rcases hN with hN | ⟨b2, hb2, e3, h3⟩
          · exact absurd g hN
          · rw [e] at e3
            have := hC.arin (by omega) (by omega) (Option.some.inj e3)
            subst this
            exact h3
        · exact ha i (by omega) g
    have KY : (F (q m) 1 = 1 ∧ 0 < F (q m) 5 ∧ C (q m) < len 0) → (∀ b, r = some (ar b) → b < m → F (q m) 0 < F (q b) 0) → ((some (ar m) = none ∧ ∀ i, i < (m + 1) → ¬ (F (q i) 1 = 1 ∧ 0 < F (q i) 5 ∧ C (q i) < len 0)) ∨ ∃ b, b < (m + 1) ∧ some (ar m) = some (ar b) ∧ (F (q b) 1 = 1 ∧ 0 < F (q b) 5 ∧ C (q b) < len 0) ∧ ∀ i, i < (m + 1) → (F (q i) 1 = 1 ∧ 0 < F (q i) 5 ∧ C (q i) < len 0) → F (q b) 0 ≤ F (q i) 0) := fun hY hlt => by
      refine Or.inr ⟨m, by omega, rfl, hY, fun i hi g => ?_⟩
      by_cases e2 : i = m
      · subst e2; exact Int.le_refl _
      · rcases hI with ⟨e, ha⟩ | ⟨b, hbm, e, hqb, ha⟩
        · exact absurd g (ha i (by omega))
        · have := hlt b e hbm
          have := ha i (by omega) g
          omega
    refine Ev.iload_n (pc := 4) (n := (0, 0)) (i := 2) dX5_cutNumber_4 rfl rfl ?_
    refine Ev.aload_n (pc := 5) (n := (0, 0)) (i := 0) dX5_cutNumber_5 rfl rfl ?_
    refine Ev.gI (pc := 6) (n := (0, 0)) (x := (n : Int)) dX5_cutNumber_6 fl_X5_20 hC.1.1.1 rfl hC.1.2.2.1 ?_
    refine Ev.icmp_ge (pc := 9) (n := (0, 0)) (tgt := 78) dX5_cutNumber_9 rfl (fun hc => absurd hc (by omega)) (fun hc => ?_)
    refine Ev.aload_n (pc := 12) (n := (0, 0)) (i := 0) dX5_cutNumber_12 rfl rfl ?_
    refine Ev.gR (pc := 13) (n := (0, 0)) (r := (some (T + 1))) dX5_cutNumber_13 fl_X5_11 hC.1.1.1 rfl hC.1.2.1.1 ?_
    refine Ev.iload_n (pc := 16) (n := (0, 0)) (i := 2) dX5_cutNumber_16 rfl rfl ?_
    refine Ev.aa (pc := 17) (n := (0, 0)) (r := (some (ar m))) dX5_cutNumber_17 hC.1.1.2.1 (by decide) (by omega) (by omega) (hC.arr hmn) ?_
    refine Ev.astore_n (pc := 18) (n := (0, 0)) (i := 3) (L' := [(3, zr (some (ar m))), (0, zr (some T)), (1, zr r), (2, zi (m : Int))]) dX5_cutNumber_18 rfl (Nat.le_of_ble_eq_true rfl) rfl ?_
    refine Ev.aload_n (pc := 19) (n := (0, 0)) (i := 3) dX5_cutNumber_19 rfl rfl ?_
    refine Ev.gI (pc := 20) (n := (0, 0)) (x := (F (q m) 1)) dX5_cutNumber_20 fl_X5_68 (hC.nd hmn).1 rfl (hC.c1 hmn) ?_
    refine Ev.if_eq (pc := 23) (n := (0, 0)) (tgt := 72) dX5_cutNumber_23 rfl (fun h1 => ?_) (fun h1 => ?_)
    · skip
      refine Ev.iinc (pc := 72) (n := (0, 0)) (L' := [(2, zi ((m : Int) + 1)), (3, zr (some (ar m))), (0, zr (some T)), (1, zr r)]) dX5_cutNumber_72 rfl (Nat.le_of_ble_eq_true rfl) ⟨by omega, by omega⟩ rfl ?_
      refine Ev.goto (pc := 75) (n := (0, 0)) (tgt := 4) dX5_cutNumber_75 rfl ?_
      refine Ev.perm [2, 3, 0] rfl ?_
      exact ih (m + 1) r (by omega) (by omega) (KN (Or.inl (fun g => by omega)))
    · skip
      refine Ev.aload_n (pc := 26) (n := (0, 0)) (i := 3) dX5_cutNumber_26 rfl rfl ?_
      refine Ev.gI (pc := 27) (n := (0, 0)) (x := (F (q m) 5)) dX5_cutNumber_27 fl_X5_72 (hC.nd hmn).1 rfl (hC.c4 hmn) ?_
      refine Ev.iconst (pc := 30) (n := (0, 0)) dX5_cutNumber_30 ?_
      refine Ev.icmp_lt (pc := 31) (n := (0, 0)) (tgt := 72) dX5_cutNumber_31 rfl (fun h2 => ?_) (fun h2 => ?_)
      · skip
        refine Ev.iinc (pc := 72) (n := (0, 0)) (L' := [(2, zi ((m : Int) + 1)), (3, zr (some (ar m))), (0, zr (some T)), (1, zr r)]) dX5_cutNumber_72 rfl (Nat.le_of_ble_eq_true rfl) ⟨by omega, by omega⟩ rfl ?_
        refine Ev.goto (pc := 75) (n := (0, 0)) (tgt := 4) dX5_cutNumber_75 rfl ?_
        refine Ev.perm [2, 3, 0] rfl ?_
        exact ih (m + 1) r (by omega) (by omega) (KN (Or.inl (fun g => by omega)))
      · skip
        refine Ev.aload_n (pc := 34) (n := (0, 0)) (i := 1) dX5_cutNumber_34 rfl rfl ?_
        rcases hI with ⟨rfl, ha⟩ | ⟨b, hbm, rfl, hqb, ha⟩
        · skip
          refine Ev.ifnull (pc := 35) (n := (0, 0)) (tgt := 49) dX5_cutNumber_35 rfl (fun hc => ?_) (fun x9 hc => nomatch hc)
          refine Ev.perm [1, 2, 3, 0] rfl ?_
          refine s_cut_in hC hw hB hl ht hP hB9 hCs hmn (by omega) (by omega) (fun h5 => ?_) (fun h5 => ?_)
          · skip
            refine Ev.aload_n (pc := 70) (n := (0, 0)) (i := 3) dX5_cutNumber_70 rfl rfl ?_
            refine Ev.astore_n (pc := 71) (n := (0, 0)) (i := 1) (L' := [(1, zr (some (ar m))), (0, zr (some T)), (2, zi (m : Int)), (3, zr (some (ar m)))]) dX5_cutNumber_71 rfl (Nat.le_of_ble_eq_true rfl) rfl ?_
            refine Ev.iinc (pc := 72) (n := (0, 0)) (L' := [(2, zi ((m : Int) + 1)), (1, zr (some (ar m))), (0, zr (some T)), (3, zr (some (ar m)))]) dX5_cutNumber_72 rfl (Nat.le_of_ble_eq_true rfl) ⟨by omega, by omega⟩ rfl ?_
            refine Ev.goto (pc := 75) (n := (0, 0)) (tgt := 4) dX5_cutNumber_75 rfl ?_
            refine Ev.perm [2, 1, 0] rfl ?_
            exact ih (m + 1) (some (ar m)) (by omega) (by omega) (KY ⟨by omega, by omega, h5⟩ (fun b e => nomatch e))
          · skip
            refine Ev.iinc (pc := 72) (n := (0, 0)) (L' := [(2, zi ((m : Int) + 1)), (0, zr (some T)), (1, zr none), (3, zr (some (ar m)))]) dX5_cutNumber_72 rfl (Nat.le_of_ble_eq_true rfl) ⟨by omega, by omega⟩ rfl ?_
            refine Ev.goto (pc := 75) (n := (0, 0)) (tgt := 4) dX5_cutNumber_75 rfl ?_
            refine Ev.perm [1, 2, 0] rfl ?_
            exact ih (m + 1) none (by omega) (by omega) (KN (Or.inl (fun g => h5 g.2.2)))
        · skip
          refine Ev.ifnull (pc := 35) (n := (0, 0)) (tgt := 49) dX5_cutNumber_35 rfl (fun hc => nomatch hc) (fun x9 hc => ?_)
          refine Ev.aload_n (pc := 38) (n := (0, 0)) (i := 3) dX5_cutNumber_38 rfl rfl ?_
          refine Ev.gI (pc := 39) (n := (0, 0)) (x := (F (q m) 0)) dX5_cutNumber_39 fl_X5_35 (hC.nd hmn).1 rfl (hC.c0 hmn) ?_
          refine Ev.aload_n (pc := 42) (n := (0, 0)) (i := 1) dX5_cutNumber_42 rfl rfl ?_
          refine Ev.gI (pc := 43) (n := (0, 0)) (x := (F (q b) 0)) dX5_cutNumber_43 fl_X5_35 (hC.nd (show b < n by omega)).1 rfl (hC.c0 (show b < n by omega)) ?_
          refine Ev.icmp_ge (pc := 46) (n := (0, 0)) (tgt := 72) dX5_cutNumber_46 rfl (fun h4 => ?_) (fun h4 => ?_)
          · skip
            refine Ev.iinc (pc := 72) (n := (0, 0)) (L' := [(2, zi ((m : Int) + 1)), (3, zr (some (ar m))), (0, zr (some T)), (1, zr (some (ar b)))]) dX5_cutNumber_72 rfl (Nat.le_of_ble_eq_true rfl) ⟨by omega, by omega⟩ rfl ?_
            refine Ev.goto (pc := 75) (n := (0, 0)) (tgt := 4) dX5_cutNumber_75 rfl ?_
            refine Ev.perm [2, 3, 0] rfl ?_
            exact ih (m + 1) (some (ar b)) (by omega) (by omega) (KN (Or.inr ⟨b, hbm, rfl, by omega⟩))
          · skip
            refine Ev.perm [1, 2, 3, 0] rfl ?_
            refine s_cut_in hC hw hB hl ht hP hB9 hCs hmn (by omega) (by omega) (fun h5 => ?_) (fun h5 => ?_)
            · skip
              refine Ev.aload_n (pc := 70) (n := (0, 0)) (i := 3) dX5_cutNumber_70 rfl rfl ?_
              refine Ev.astore_n (pc := 71) (n := (0, 0)) (i := 1) (L' := [(1, zr (some (ar m))), (0, zr (some T)), (2, zi (m : Int)), (3, zr (some (ar m)))]) dX5_cutNumber_71 rfl (Nat.le_of_ble_eq_true rfl) rfl ?_
              refine Ev.iinc (pc := 72) (n := (0, 0)) (L' := [(2, zi ((m : Int) + 1)), (1, zr (some (ar m))), (0, zr (some T)), (3, zr (some (ar m)))]) dX5_cutNumber_72 rfl (Nat.le_of_ble_eq_true rfl) ⟨by omega, by omega⟩ rfl ?_
              refine Ev.goto (pc := 75) (n := (0, 0)) (tgt := 4) dX5_cutNumber_75 rfl ?_
              refine Ev.perm [2, 1, 0] rfl ?_
              exact ih (m + 1) (some (ar m)) (by omega) (by omega) (KY ⟨by omega, by omega, h5⟩ (fun b2 e hb2 => by
                have := hC.arin (by omega) (by omega) (Option.some.inj e)
                subst this
                omega))
            · skip
              refine Ev.iinc (pc := 72) (n := (0, 0)) (L' := [(2, zi ((m : Int) + 1)), (0, zr (some T)), (1, zr (some (ar b))), (3, zr (some (ar m)))]) dX5_cutNumber_72 rfl (Nat.le_of_ble_eq_true rfl) ⟨by omega, by omega⟩ rfl ?_
              refine Ev.goto (pc := 75) (n := (0, 0)) (tgt := 4) dX5_cutNumber_75 rfl ?_
              refine Ev.perm [1, 2, 0] rfl ?_
              exact ih (m + 1) (some (ar b)) (by omega) (by omega) (KN (Or.inl (fun g => h5 g.2.2)))
theorem s_cutC {h : zH} {T n : Nat} {F : zF} {ad dl : Int} {ar q : Nat → Nat} (hC : CT h T n F ad dl ar q) {dep : Nat → Nat} {B : Int} (hw : WF n F dep B) (hB : 24 * (60 + B) ≤ 1000000000) {len st sl dp : Int → Int} (hl : IsLen n F len) (ht : IsTm n F len st sl dp) (hP : PLN h n F len st sl dp ar q) {dep9 : Nat → Nat} {B9 : Int} (hB9 : 24 * (60 + B9) ≤ 1000000000) {C : Nat → Int} (hCs : IsCuts n F dep9 B9 C) {c : Int} (hc9 : IsCut n F C (len 0) 0 c) : Ev M_X5_cutNumber 0 [(0, zr (some T))] [] h (0, 0) (.inl (some (zi c)), h) := by
  refine Ev.null (pc := 0) (n := (0, 0)) dX5_cutNumber_0 ?_
  refine Ev.astore_n (pc := 1) (n := (0, 0)) (i := 1) (L' := [(1, zr none), (0, zr (some T))]) dX5_cutNumber_1 rfl (Nat.le_of_ble_eq_true rfl) rfl ?_
  refine Ev.iconst (pc := 2) (n := (0, 0)) dX5_cutNumber_2 ?_
  refine Ev.istore_n (pc := 3) (n := (0, 0)) (i := 2) (L' := [(2, zi 0), (1, zr none), (0, zr (some T))]) dX5_cutNumber_3 rfl (Nat.le_of_ble_eq_true rfl) rfl ?_
  refine Ev.perm [2, 1, 0] rfl ?_
  exact s_cutC_loop hC hw hB hl ht hP hB9 hCs hc9 n 0 none (by omega) (by omega) (Or.inl ⟨rfl, fun i hi => absurd hi (Nat.not_lt_zero _)⟩)
