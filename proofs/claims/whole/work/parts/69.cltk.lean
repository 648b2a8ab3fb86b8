/-! ===== constructors ===== -/
section ZPT
variable {y : zM} {pc : Nat} {L : List (Nat × zV)} {st : List zV} {K : List (Nat × Nat)} {I : Nat → Int → Int} {R : Nat → Int → Option Nat} {n : Nat × Nat} {q : zO}
theorem Ev.puI {idx ob c z k : Nat} {x : Int} (d : decode (zcode y) pc = .ok (.putfield idx, 3)) (lk : zFl (zname y).cls idx c k) (ho : K[ob]? = some (c, z)) (hr : zRf c k = false) (hf : (zT c k).2.2.2 = false) (hbx : zty c k = .boolean → x = 0 ∨ x = 1) (kk : Ev y (pc + 3) L st (K, zup I ob (k : Nat) x, R) n q) : Ev y pc L (zi x :: zr (some ob) :: st) (K, I, R) n q := Ev.putI (h := (K, I, R)) d lk ho hr hf hbx kk
theorem Ev.puR {idx ob c z k : Nat} {x : Option Nat} (d : decode (zcode y) pc = .ok (.putfield idx, 3)) (lk : zFl (zname y).cls idx c k) (ho : K[ob]? = some (c, z)) (hr : zRf c k = true) (hf : (zT c k).2.2.2 = false) (kk : Ev y (pc + 3) L st (K, I, zup R ob (k : Nat) x) n q) : Ev y pc L (zr x :: zr (some ob) :: st) (K, I, R) n q := Ev.putR (h := (K, I, R)) d lk ho hr hf kk
theorem Ev.puF {idx ob c z k : Nat} {x : Option Nat} (d : decode (zcode y) pc = .ok (.putfield idx, 3)) (lk : zFl (zname y).cls idx c k) (ho : K[ob]? = some (c, z)) (hr : zRf c k = true) (hf : (zT c k).2.2.2 = true) (hin : (zname y).name = "<init>") (hcl : zCn c = (zname y).cls) (kk : Ev y (pc + 3) L st (K, I, zup R ob (k : Nat) x) n q) : Ev y pc L (zr x :: zr (some ob) :: st) (K, I, R) n q := Ev.putF (h := (K, I, R)) d lk ho hr hf hin hcl kk
theorem Ev.iaT {ob N : Nat} {i x : Int} (d : decode (zcode y) pc = .ok (.iastore, 1)) (ho : K[ob]? = some (5, N)) (h0 : 0 ≤ i) (h1 : i < N) (kk : Ev y (pc + 1) L st (K, zup I ob i x, R) n q) : Ev y pc L (zi x :: zi i :: zr (some ob) :: st) (K, I, R) n q := Ev.iast (h := (K, I, R)) d ho h0 h1 kk
theorem Ev.aaT {ob N kd xo ci z : Nat} {i : Int} (d : decode (zcode y) pc = .ok (.aastore, 1)) (ho : K[ob]? = some (kd, N)) (hkd : kd = 7 ∧ ci = 1 ∨ kd = 8 ∧ ci = 2) (hxo : K[xo]? = some (ci, z)) (h0 : 0 ≤ i) (h1 : i < N) (kk : Ev y (pc + 1) L st (K, I, zup R ob i (some xo)) n q) : Ev y pc L (zr (some xo) :: zi i :: zr (some ob) :: st) (K, I, R) n q := Ev.aast (h := (K, I, R)) d ho hkd hxo h0 h1 kk
end ZPT
/-- nothing yet -/
def zFrs (I : Nat → Int → Int) (R : Nat → Int → Option Nat) (a b : Nat) : Prop := ∀ o, a ≤ o → o < b → (∀ k, I o k = 0) ∧ ∀ k, R o k = none
theorem s_X2_init {I : Nat → Int → Int} {R : Nat → Int → Option Nat} (hf : zFrs I R 2 4) : Ev M_X2_init 0 [(0, zr (some 1))] [] (KK.take 2, I, R) (0, 0) (.inl none, (KK.take 4, (zup (zup (zup I 1 1 0) 1 3 0) 1 4 (-1)), (zup (zup R 1 0 (some 2)) 1 2 (some 3)))) := by
  refine Ev.aload_n (pc := 0) (n := (0, 0)) (i := 0) dX2_init_0 rfl rfl ?_
  refine Ev.objInit (pc := 1) (n := (0, 0)) dX2_init_1 (lk_X2_3 rfl) ⟨(Nat.le_of_ble_eq_true rfl), (Nat.le_of_ble_eq_true rfl)⟩ (Nat.le_of_ble_eq_true rfl) rfl ?_
  refine Ev.aload_n (pc := 4) (n := (0, 0)) (i := 0) dX2_init_4 rfl rfl ?_
  refine Ev.sipush (pc := 5) (n := (0, 0)) dX2_init_5 ?_
  refine Ev.newI (pc := 8) (n := (0, 0)) (m := 2) (N := 150) dX2_init_8 (zgw_in (List.mem_of_getElem? (i := 143) (by decide +kernel)) rfl) rfl (fun k => (hf 2 (by decide) (by decide)).1 k) rfl (by decide) ⟨(Nat.le_of_ble_eq_true rfl), (Nat.le_of_ble_eq_true rfl)⟩ ?_
  refine Ev.puF (pc := 10) (n := (1, 150)) dX2_init_10 fl_X2_9 (kt_at (by decide) rfl) rfl rfl rfl rfl ?_
  refine Ev.aload_n (pc := 13) (n := (1, 150)) (i := 0) dX2_init_13 rfl rfl ?_
  refine Ev.iconst (pc := 14) (n := (1, 150)) dX2_init_14 ?_
  refine Ev.puI (pc := 15) (n := (1, 150)) dX2_init_15 fl_X2_15 (kt_at (by decide) rfl) rfl rfl (fun h9 => by cases h9) ?_
  refine Ev.aload_n (pc := 18) (n := (1, 150)) (i := 0) dX2_init_18 rfl rfl ?_
  refine Ev.iconst (pc := 19) (n := (1, 150)) dX2_init_19 ?_
  refine Ev.newI (pc := 20) (n := (1, 150)) (m := 3) (N := 3) dX2_init_20 (zgw_in (List.mem_of_getElem? (i := 143) (by decide +kernel)) rfl) rfl (fun k => (by rw [zup_o _ _ _ _ (by decide)]; exact (hf 3 (by decide) (by decide)).1 k)) rfl (by decide) ⟨(Nat.le_of_ble_eq_true rfl), (Nat.le_of_ble_eq_true rfl)⟩ ?_
  refine Ev.puF (pc := 22) (n := (2, 153)) dX2_init_22 fl_X2_19 (kt_at (by decide) rfl) rfl rfl rfl rfl ?_
  refine Ev.aload_n (pc := 25) (n := (2, 153)) (i := 0) dX2_init_25 rfl rfl ?_
  refine Ev.iconst (pc := 26) (n := (2, 153)) dX2_init_26 ?_
  refine Ev.puI (pc := 27) (n := (2, 153)) dX2_init_27 fl_X2_22 (kt_at (by decide) rfl) rfl rfl (fun h9 => by cases h9) ?_
  refine Ev.aload_n (pc := 30) (n := (2, 153)) (i := 0) dX2_init_30 rfl rfl ?_
  refine Ev.iconst (pc := 31) (n := (2, 153)) dX2_init_31 ?_
  refine Ev.puI (pc := 32) (n := (2, 153)) dX2_init_32 fl_X2_25 (kt_at (by decide) rfl) rfl rfl (fun h9 => by cases h9) ?_
  exact Ev.vret (pc := 35) (n := (2, 153)) dX2_init_35 rfl ⟨(Nat.le_of_ble_eq_true rfl), (Nat.le_of_ble_eq_true rfl)⟩
abbrev zndI (I : Nat → Int → Int) (o : Nat) : Nat → Int → Int := (zup (zup (zup (zup (zup (zup (zup (zup (zup (zup (zup (zup I o 0 0) o 1 0) o 2 (-1)) o 3 (-1)) o 4 0) o 5 0) o 8 (-1)) o 9 0) o 10 0) o 11 0) o 12 0) o 13 0)
abbrev zndR (R : Nat → Int → Option Nat) (o : Nat) : Nat → Int → Option Nat := (zup (zup (zup R o 6 none) o 7 none) o 14 (some (o + 1)))
theorem s_X3_init {I : Nat → Int → Int} {R : Nat → Int → Option Nat} {o : Nat} (ho : KK[o]? = some (1, 0)) (hm : KK[o + 1]? = some (5, 4)) (hf : ∀ k, I (o + 1) k = 0) : Ev M_X3_init 0 [(0, zr (some o))] [] (KK.take (o + 1), I, R) (0, 0) (.inl none, (KK.take (o + 2), zndI I o, zndR R o)) := by
  refine Ev.aload_n (pc := 0) (n := (0, 0)) (i := 0) dX3_init_0 rfl rfl ?_
  refine Ev.objInit (pc := 1) (n := (0, 0)) dX3_init_1 (lk_X3_3 rfl) ⟨(Nat.le_of_ble_eq_true rfl), (Nat.le_of_ble_eq_true rfl)⟩ (Nat.le_of_ble_eq_true rfl) rfl ?_
  refine Ev.aload_n (pc := 4) (n := (0, 0)) (i := 0) dX3_init_4 rfl rfl ?_
  refine Ev.iconst (pc := 5) (n := (0, 0)) dX3_init_5 ?_
  refine Ev.puI (pc := 6) (n := (0, 0)) dX3_init_6 fl_X3_9 (kt_at (by omega) ho) rfl rfl (fun h9 => by cases h9) ?_
  refine Ev.aload_n (pc := 9) (n := (0, 0)) (i := 0) dX3_init_9 rfl rfl ?_
  refine Ev.iconst (pc := 10) (n := (0, 0)) dX3_init_10 ?_
  refine Ev.puI (pc := 11) (n := (0, 0)) dX3_init_11 fl_X3_15 (kt_at (by omega) ho) rfl rfl (fun _ => Or.inl rfl) ?_
  refine Ev.aload_n (pc := 14) (n := (0, 0)) (i := 0) dX3_init_14 rfl rfl ?_
  refine Ev.iconst (pc := 15) (n := (0, 0)) dX3_init_15 ?_
  refine Ev.puI (pc := 16) (n := (0, 0)) dX3_init_16 fl_X3_19 (kt_at (by omega) ho) rfl rfl (fun h9 => by cases h9) ?_
  refine Ev.aload_n (pc := 19) (n := (0, 0)) (i := 0) dX3_init_19 rfl rfl ?_
  refine Ev.iconst (pc := 20) (n := (0, 0)) dX3_init_20 ?_
  refine Ev.puI (pc := 21) (n := (0, 0)) dX3_init_21 fl_X3_22 (kt_at (by omega) ho) rfl rfl (fun h9 => by cases h9) ?_
  refine Ev.aload_n (pc := 24) (n := (0, 0)) (i := 0) dX3_init_24 rfl rfl ?_
  refine Ev.iconst (pc := 25) (n := (0, 0)) dX3_init_25 ?_
  refine Ev.puI (pc := 26) (n := (0, 0)) dX3_init_26 fl_X3_25 (kt_at (by omega) ho) rfl rfl (fun h9 => by cases h9) ?_
  refine Ev.aload_n (pc := 29) (n := (0, 0)) (i := 0) dX3_init_29 rfl rfl ?_
  refine Ev.iconst (pc := 30) (n := (0, 0)) dX3_init_30 ?_
  refine Ev.puI (pc := 31) (n := (0, 0)) dX3_init_31 fl_X3_28 (kt_at (by omega) ho) rfl rfl (fun h9 => by cases h9) ?_
  refine Ev.aload_n (pc := 34) (n := (0, 0)) (i := 0) dX3_init_34 rfl rfl ?_
  refine Ev.null (pc := 35) (n := (0, 0)) dX3_init_35 ?_
  refine Ev.puR (pc := 36) (n := (0, 0)) dX3_init_36 fl_X3_31 (kt_at (by omega) ho) rfl rfl ?_
  refine Ev.aload_n (pc := 39) (n := (0, 0)) (i := 0) dX3_init_39 rfl rfl ?_
  refine Ev.null (pc := 40) (n := (0, 0)) dX3_init_40 ?_
  refine Ev.puR (pc := 41) (n := (0, 0)) dX3_init_41 fl_X3_35 (kt_at (by omega) ho) rfl rfl ?_
  refine Ev.aload_n (pc := 44) (n := (0, 0)) (i := 0) dX3_init_44 rfl rfl ?_
  refine Ev.iconst (pc := 45) (n := (0, 0)) dX3_init_45 ?_
  refine Ev.puI (pc := 46) (n := (0, 0)) dX3_init_46 fl_X3_38 (kt_at (by omega) ho) rfl rfl (fun h9 => by cases h9) ?_
  refine Ev.aload_n (pc := 49) (n := (0, 0)) (i := 0) dX3_init_49 rfl rfl ?_
  refine Ev.iconst (pc := 50) (n := (0, 0)) dX3_init_50 ?_
  refine Ev.puI (pc := 51) (n := (0, 0)) dX3_init_51 fl_X3_41 (kt_at (by omega) ho) rfl rfl (fun h9 => by cases h9) ?_
  refine Ev.aload_n (pc := 54) (n := (0, 0)) (i := 0) dX3_init_54 rfl rfl ?_
  refine Ev.iconst (pc := 55) (n := (0, 0)) dX3_init_55 ?_
  refine Ev.puI (pc := 56) (n := (0, 0)) dX3_init_56 fl_X3_44 (kt_at (by omega) ho) rfl rfl (fun h9 => by cases h9) ?_
  refine Ev.aload_n (pc := 59) (n := (0, 0)) (i := 0) dX3_init_59 rfl rfl ?_
  refine Ev.iconst (pc := 60) (n := (0, 0)) dX3_init_60 ?_
  refine Ev.puI (pc := 61) (n := (0, 0)) dX3_init_61 fl_X3_47 (kt_at (by omega) ho) rfl rfl (fun h9 => by cases h9) ?_
  refine Ev.aload_n (pc := 64) (n := (0, 0)) (i := 0) dX3_init_64 rfl rfl ?_
  refine Ev.iconst (pc := 65) (n := (0, 0)) dX3_init_65 ?_
  refine Ev.puI (pc := 66) (n := (0, 0)) dX3_init_66 fl_X3_50 (kt_at (by omega) ho) rfl rfl (fun h9 => by cases h9) ?_
  refine Ev.aload_n (pc := 69) (n := (0, 0)) (i := 0) dX3_init_69 rfl rfl ?_
  refine Ev.iconst (pc := 70) (n := (0, 0)) dX3_init_70 ?_
  refine Ev.puI (pc := 71) (n := (0, 0)) dX3_init_71 fl_X3_53 (kt_at (by omega) ho) rfl rfl (fun h9 => by cases h9) ?_
  refine Ev.aload_n (pc := 74) (n := (0, 0)) (i := 0) dX3_init_74 rfl rfl ?_
  refine Ev.iconst (pc := 75) (n := (0, 0)) dX3_init_75 ?_
  refine Ev.newI (pc := 76) (n := (0, 0)) (m := o + 1) (N := 4) dX3_init_76 (zgw_in (List.mem_of_getElem? (i := 143) (by decide +kernel)) rfl) hm (fun k => (by simp only [zup, Nat.succ_ne_self, false_and, if_false]; exact hf k)) rfl (by decide) ⟨(Nat.le_of_ble_eq_true rfl), (Nat.le_of_ble_eq_true rfl)⟩ ?_
  refine Ev.puF (pc := 78) (n := (1, 4)) dX3_init_78 fl_X3_56 (kt_at (by omega) ho) rfl rfl rfl rfl ?_
  exact Ev.vret (pc := 81) (n := (1, 4)) dX3_init_81 rfl ⟨(Nat.le_of_ble_eq_true rfl), (Nat.le_of_ble_eq_true rfl)⟩
theorem s_X7_init {I : Nat → Int → Int} {R : Nat → Int → Option Nat} (hf : zFrs I R 261 271) : Ev M_X7_init 0 [(0, zr (some 260))] [] (KK.take 261, I, R) (0, 0) (.inl none, (KK.take 271, (zup (zup (zup (zup (zup (zup I 261 0 1) 261 1 1) 261 2 99) 261 5 (-1)) 261 6 (-1)) 261 7 (-1)), (zup (zup (zup (zup (zup (zup (zup (zup (zup (zup R 260 0 (some 261)) 260 3 (some 262)) 260 5 (some 263)) 260 6 (some 264)) 260 7 (some 265)) 260 8 (some 266)) 260 9 (some 267)) 260 10 (some 268)) 260 13 (some 269)) 260 14 (some 270)))) := by
  refine Ev.aload_n (pc := 0) (n := (0, 0)) (i := 0) dX7_init_0 rfl rfl ?_
  refine Ev.objInit (pc := 1) (n := (0, 0)) dX7_init_1 (lk_X7_1 rfl) ⟨(Nat.le_of_ble_eq_true rfl), (Nat.le_of_ble_eq_true rfl)⟩ (Nat.le_of_ble_eq_true rfl) rfl ?_
  refine Ev.aload_n (pc := 4) (n := (0, 0)) (i := 0) dX7_init_4 rfl rfl ?_
  refine Ev.sipush (pc := 5) (n := (0, 0)) dX7_init_5 ?_
  refine Ev.newI (pc := 8) (n := (0, 0)) (m := 261) (N := 1026) dX7_init_8 (zgw_in (List.mem_of_getElem? (i := 143) (by decide +kernel)) rfl) rfl (fun k => (hf 261 (by decide) (by decide)).1 k) rfl (by decide) ⟨(Nat.le_of_ble_eq_true rfl), (Nat.le_of_ble_eq_true rfl)⟩ ?_
  refine Ev.puF (pc := 10) (n := (1, 1026)) dX7_init_10 fl_X7_7 (kt_at (by decide) rfl) rfl rfl rfl rfl ?_
  refine Ev.aload_n (pc := 13) (n := (1, 1026)) (i := 0) dX7_init_13 rfl rfl ?_
  refine Ev.sipush (pc := 14) (n := (1, 1026)) dX7_init_14 ?_
  refine Ev.newI (pc := 17) (n := (1, 1026)) (m := 262) (N := 150) dX7_init_17 (zgw_in (List.mem_of_getElem? (i := 143) (by decide +kernel)) rfl) rfl (fun k => (hf 262 (by decide) (by decide)).1 k) rfl (by decide) ⟨(Nat.le_of_ble_eq_true rfl), (Nat.le_of_ble_eq_true rfl)⟩ ?_
  refine Ev.puF (pc := 19) (n := (2, 1176)) dX7_init_19 fl_X7_13 (kt_at (by decide) rfl) rfl rfl rfl rfl ?_
  refine Ev.aload_n (pc := 22) (n := (2, 1176)) (i := 0) dX7_init_22 rfl rfl ?_
  refine Ev.bipush (pc := 23) (n := (2, 1176)) dX7_init_23 ?_
  refine Ev.newI (pc := 25) (n := (2, 1176)) (m := 263) (N := 24) dX7_init_25 (zgw_in (List.mem_of_getElem? (i := 143) (by decide +kernel)) rfl) rfl (fun k => (hf 263 (by decide) (by decide)).1 k) rfl (by decide) ⟨(Nat.le_of_ble_eq_true rfl), (Nat.le_of_ble_eq_true rfl)⟩ ?_
  refine Ev.puF (pc := 27) (n := (3, 1200)) dX7_init_27 fl_X7_16 (kt_at (by decide) rfl) rfl rfl rfl rfl ?_
  refine Ev.aload_n (pc := 30) (n := (3, 1200)) (i := 0) dX7_init_30 rfl rfl ?_
  refine Ev.bipush (pc := 31) (n := (3, 1200)) dX7_init_31 ?_
  refine Ev.newI (pc := 33) (n := (3, 1200)) (m := 264) (N := 24) dX7_init_33 (zgw_in (List.mem_of_getElem? (i := 143) (by decide +kernel)) rfl) rfl (fun k => (hf 264 (by decide) (by decide)).1 k) rfl (by decide) ⟨(Nat.le_of_ble_eq_true rfl), (Nat.le_of_ble_eq_true rfl)⟩ ?_
  refine Ev.puF (pc := 35) (n := (4, 1224)) dX7_init_35 fl_X7_19 (kt_at (by decide) rfl) rfl rfl rfl rfl ?_
  refine Ev.aload_n (pc := 38) (n := (4, 1224)) (i := 0) dX7_init_38 rfl rfl ?_
  refine Ev.bipush (pc := 39) (n := (4, 1224)) dX7_init_39 ?_
  refine Ev.newI (pc := 41) (n := (4, 1224)) (m := 265) (N := 24) dX7_init_41 (zgw_in (List.mem_of_getElem? (i := 143) (by decide +kernel)) rfl) rfl (fun k => (hf 265 (by decide) (by decide)).1 k) rfl (by decide) ⟨(Nat.le_of_ble_eq_true rfl), (Nat.le_of_ble_eq_true rfl)⟩ ?_
  refine Ev.puF (pc := 43) (n := (5, 1248)) dX7_init_43 fl_X7_22 (kt_at (by decide) rfl) rfl rfl rfl rfl ?_
  refine Ev.aload_n (pc := 46) (n := (5, 1248)) (i := 0) dX7_init_46 rfl rfl ?_
  refine Ev.bipush (pc := 47) (n := (5, 1248)) dX7_init_47 ?_
  refine Ev.newI (pc := 49) (n := (5, 1248)) (m := 266) (N := 24) dX7_init_49 (zgw_in (List.mem_of_getElem? (i := 143) (by decide +kernel)) rfl) rfl (fun k => (hf 266 (by decide) (by decide)).1 k) rfl (by decide) ⟨(Nat.le_of_ble_eq_true rfl), (Nat.le_of_ble_eq_true rfl)⟩ ?_
  refine Ev.puF (pc := 51) (n := (6, 1272)) dX7_init_51 fl_X7_25 (kt_at (by decide) rfl) rfl rfl rfl rfl ?_
  refine Ev.aload_n (pc := 54) (n := (6, 1272)) (i := 0) dX7_init_54 rfl rfl ?_
  refine Ev.bipush (pc := 55) (n := (6, 1272)) dX7_init_55 ?_
  refine Ev.newI (pc := 57) (n := (6, 1272)) (m := 267) (N := 24) dX7_init_57 (zgw_in (List.mem_of_getElem? (i := 143) (by decide +kernel)) rfl) rfl (fun k => (hf 267 (by decide) (by decide)).1 k) rfl (by decide) ⟨(Nat.le_of_ble_eq_true rfl), (Nat.le_of_ble_eq_true rfl)⟩ ?_
  refine Ev.puF (pc := 59) (n := (7, 1296)) dX7_init_59 fl_X7_28 (kt_at (by decide) rfl) rfl rfl rfl rfl ?_
  refine Ev.aload_n (pc := 62) (n := (7, 1296)) (i := 0) dX7_init_62 rfl rfl ?_
  refine Ev.bipush (pc := 63) (n := (7, 1296)) dX7_init_63 ?_
  refine Ev.newZ (pc := 65) (n := (7, 1296)) (m := 268) (N := 24) dX7_init_65 (zgw_in (List.mem_of_getElem? (i := 990) (by decide +kernel)) rfl) rfl (fun k => (hf 268 (by decide) (by decide)).1 k) rfl (by decide) ⟨(Nat.le_of_ble_eq_true rfl), (Nat.le_of_ble_eq_true rfl)⟩ ?_
  refine Ev.puF (pc := 67) (n := (8, 1320)) dX7_init_67 fl_X7_31 (kt_at (by decide) rfl) rfl rfl rfl rfl ?_
  refine Ev.aload_n (pc := 70) (n := (8, 1320)) (i := 0) dX7_init_70 rfl rfl ?_
  refine Ev.iconst (pc := 71) (n := (8, 1320)) dX7_init_71 ?_
  refine Ev.newI (pc := 72) (n := (8, 1320)) (m := 269) (N := 3) dX7_init_72 (zgw_in (List.mem_of_getElem? (i := 143) (by decide +kernel)) rfl) rfl (fun k => (hf 269 (by decide) (by decide)).1 k) rfl (by decide) ⟨(Nat.le_of_ble_eq_true rfl), (Nat.le_of_ble_eq_true rfl)⟩ ?_
  refine Ev.puF (pc := 74) (n := (9, 1323)) dX7_init_74 fl_X7_35 (kt_at (by decide) rfl) rfl rfl rfl rfl ?_
  refine Ev.aload_n (pc := 77) (n := (9, 1323)) (i := 0) dX7_init_77 rfl rfl ?_
  refine Ev.bipush (pc := 78) (n := (9, 1323)) dX7_init_78 ?_
  refine Ev.newI (pc := 80) (n := (9, 1323)) (m := 270) (N := 24) dX7_init_80 (zgw_in (List.mem_of_getElem? (i := 143) (by decide +kernel)) rfl) rfl (fun k => (hf 270 (by decide) (by decide)).1 k) rfl (by decide) ⟨(Nat.le_of_ble_eq_true rfl), (Nat.le_of_ble_eq_true rfl)⟩ ?_
  refine Ev.puF (pc := 82) (n := (10, 1347)) dX7_init_82 fl_X7_38 (kt_at (by decide) rfl) rfl rfl rfl rfl ?_
  refine Ev.aload_n (pc := 85) (n := (10, 1347)) (i := 0) dX7_init_85 rfl rfl ?_
  refine Ev.gR (pc := 86) (n := (10, 1347)) (r := (some 261)) dX7_init_86 fl_X7_7 (kt_at (by decide) rfl) rfl rfl ?_
  refine Ev.iconst (pc := 89) (n := (10, 1347)) dX7_init_89 ?_
  refine Ev.iconst (pc := 90) (n := (10, 1347)) dX7_init_90 ?_
  refine Ev.iaT (pc := 91) (n := (10, 1347)) dX7_init_91 (kt_at (by decide) rfl) (by decide) (by decide) ?_
  refine Ev.aload_n (pc := 92) (n := (10, 1347)) (i := 0) dX7_init_92 rfl rfl ?_
  refine Ev.gR (pc := 93) (n := (10, 1347)) (r := (some 261)) dX7_init_93 fl_X7_7 (kt_at (by decide) rfl) rfl rfl ?_
  refine Ev.iconst (pc := 96) (n := (10, 1347)) dX7_init_96 ?_
  refine Ev.iconst (pc := 97) (n := (10, 1347)) dX7_init_97 ?_
  refine Ev.iaT (pc := 98) (n := (10, 1347)) dX7_init_98 (kt_at (by decide) rfl) (by decide) (by decide) ?_
  refine Ev.aload_n (pc := 99) (n := (10, 1347)) (i := 0) dX7_init_99 rfl rfl ?_
  refine Ev.gR (pc := 100) (n := (10, 1347)) (r := (some 261)) dX7_init_100 fl_X7_7 (kt_at (by decide) rfl) rfl rfl ?_
  refine Ev.iconst (pc := 103) (n := (10, 1347)) dX7_init_103 ?_
  refine Ev.bipush (pc := 104) (n := (10, 1347)) dX7_init_104 ?_
  refine Ev.iaT (pc := 106) (n := (10, 1347)) dX7_init_106 (kt_at (by decide) rfl) (by decide) (by decide) ?_
  refine Ev.aload_n (pc := 107) (n := (10, 1347)) (i := 0) dX7_init_107 rfl rfl ?_
  refine Ev.gR (pc := 108) (n := (10, 1347)) (r := (some 261)) dX7_init_108 fl_X7_7 (kt_at (by decide) rfl) rfl rfl ?_
  refine Ev.iconst (pc := 111) (n := (10, 1347)) dX7_init_111 ?_
  refine Ev.iconst (pc := 112) (n := (10, 1347)) dX7_init_112 ?_
  refine Ev.iaT (pc := 113) (n := (10, 1347)) dX7_init_113 (kt_at (by decide) rfl) (by decide) (by decide) ?_
  refine Ev.aload_n (pc := 114) (n := (10, 1347)) (i := 0) dX7_init_114 rfl rfl ?_
  refine Ev.gR (pc := 115) (n := (10, 1347)) (r := (some 261)) dX7_init_115 fl_X7_7 (kt_at (by decide) rfl) rfl rfl ?_
  refine Ev.bipush (pc := 118) (n := (10, 1347)) dX7_init_118 ?_
  refine Ev.iconst (pc := 120) (n := (10, 1347)) dX7_init_120 ?_
  refine Ev.iaT (pc := 121) (n := (10, 1347)) dX7_init_121 (kt_at (by decide) rfl) (by decide) (by decide) ?_
  refine Ev.aload_n (pc := 122) (n := (10, 1347)) (i := 0) dX7_init_122 rfl rfl ?_
  refine Ev.gR (pc := 123) (n := (10, 1347)) (r := (some 261)) dX7_init_123 fl_X7_7 (kt_at (by decide) rfl) rfl rfl ?_
  refine Ev.bipush (pc := 126) (n := (10, 1347)) dX7_init_126 ?_
  refine Ev.iconst (pc := 128) (n := (10, 1347)) dX7_init_128 ?_
  refine Ev.iaT (pc := 129) (n := (10, 1347)) dX7_init_129 (kt_at (by decide) rfl) (by decide) (by decide) ?_
  exact Ev.vret (pc := 130) (n := (10, 1347)) dX7_init_130 rfl ⟨(Nat.le_of_ble_eq_true rfl), (Nat.le_of_ble_eq_true rfl)⟩
def KT (T : Nat) : Prop := KK[T]? = some (2, 0) ∧ KK[T + 1]? = some (7, 24) ∧ KK[T + 2]? = some (7, 24) ∧ ∀ i, i < 24 → KK[T + 3 + 2 * i]? = some (1, 0) ∧ KK[T + 3 + 2 * i + 1]? = some (5, 4)
theorem KT_of {t : Nat} (ht : t < 5) : KT (5 + 51 * t) := ⟨KK_T t ht, KK_T1 t ht, KK_T2 t ht, fun i hi => ⟨KK_N t ht i hi, by rw [show 5 + 51 * t + 3 + 2 * i + 1 = 5 + 51 * t + 4 + 2 * i by omega]; exact KK_L t ht i hi⟩⟩
def NDf (I : Nat → Int → Int) (R : Nat → Int → Option Nat) (o : Nat) : Prop := (I o 0 = 0 ∧ I o 1 = 0 ∧ I o 2 = -1 ∧ I o 3 = -1 ∧ I o 4 = 0 ∧ I o 5 = 0) ∧ (I o 8 = -1 ∧ I o 9 = 0 ∧ I o 10 = 0 ∧ I o 11 = 0 ∧ I o 12 = 0 ∧ I o 13 = 0) ∧ (R o 6 = none ∧ R o 14 = some (o + 1)) ∧ ∀ k, I (o + 1) k = 0
def FTi (T i : Nat) (I : Nat → Int → Int) (R : Nat → Int → Option Nat) : Prop := (I T 2 = 1 ∧ I T 3 = 1 ∧ I T 4 = 99) ∧ (R T 0 = some (T + 1) ∧ R T 1 = some (T + 2)) ∧ (∀ j : Nat, j < i → NDf I R (T + 3 + 2 * j) ∧ R (T + 1) j = some (T + 3 + 2 * j)) ∧ zFrs I R (T + 3 + 2 * i) (T + 51)
theorem NDf.fr {I I' : Nat → Int → Int} {R R' : Nat → Int → Option Nat} {o : Nat} (h : NDf I R o) (e1 : I' o = I o) (e2 : R' o = R o) (e3 : I' (o + 1) = I (o + 1)) : NDf I' R' o := by
  unfold NDf at h ⊢
  rw [e1, e2, e3]
  exact h
theorem FTi.fr {T i : Nat} {I I' : Nat → Int → Int} {R R' : Nat → Int → Option Nat} (h : FTi T i I R) (hi : i ≤ 24) (e : ∀ o, T ≤ o → o < T + 51 → I' o = I o ∧ R' o = R o) : FTi T i I' R' := by
  obtain ⟨h1, h2, h3, h4⟩ := h
  refine ⟨?_, ?_, fun j hj => ⟨(h3 j hj).1.fr (e _ (by omega) (by omega)).1 (e _ (by omega) (by omega)).2 (e _ (by omega) (by omega)).1, ?_⟩, fun o a b => ?_⟩
  · rw [(e T (by omega) (by omega)).1]
    exact h1
  · rw [(e T (by omega) (by omega)).2]
    exact h2
  · rw [(e (T + 1) (by omega) (by omega)).2]
    exact (h3 j hj).2
  · rw [(e o (by omega) (by omega)).1, (e o (by omega) (by omega)).2]
    exact h4 o a b
theorem zndI_o (I : Nat → Int → Int) {o p : Nat} (h : p ≠ o) : zndI I o p = I p := funext fun k => by simp only [zup, h, false_and, if_false]
theorem zndR_o (R : Nat → Int → Option Nat) {o p : Nat} (h : p ≠ o) : zndR R o p = R p := funext fun k => by simp only [zup, h, false_and, if_false]
theorem NDf.of {I : Nat → Int → Int} {R : Nat → Int → Option Nat} {o : Nat} (h : ∀ k, I (o + 1) k = 0) : NDf (zndI I o) (zndR R o) o := by
  refine ⟨⟨by simp [zup], by simp [zup], by simp [zup], by simp [zup], by simp [zup], by simp [zup]⟩, ⟨by simp [zup], by simp [zup], by simp [zup], by simp [zup], by simp [zup], by simp [zup]⟩, ⟨by simp [zup], by simp [zup]⟩, fun k => ?_⟩
  rw [zndI_o I (Nat.succ_ne_self o)]
  exact h k
theorem FTi.step {T i : Nat} {I : Nat → Int → Int} {R : Nat → Int → Option Nat} (h : FTi T i I R) (hi : i < 24) : FTi T (i + 1) (zndI I (T + 3 + 2 * i)) (zup (zup (zndR R (T + 3 + 2 * i)) (T + 1) (i : Int) (some (T + 3 + 2 * i))) (T + 2) (i : Int) (some (T + 3 + 2 * i))) := by
  obtain ⟨h1, h2, h3, h4⟩ := h
  refine ⟨?_, ?_, fun j hj => ?_, fun o a b => ?_⟩
  · rw [zndI_o I (p := T) (by omega)]
    exact h1
  · rw [show (zup (zup (zndR R (T + 3 + 2 * i)) (T + 1) (i : Int) (some (T + 3 + 2 * i))) (T + 2) (i : Int) (some (T + 3 + 2 * i))) T = R T from funext fun k => by rw [zup_o _ _ _ _ (by omega), zup_o _ _ _ _ (by omega), zndR_o R (p := T) (by omega)]]
    exact h2
  · by_cases c : j = i
    · subst c
      refine ⟨(NDf.of (h4 (T + 3 + 2 * j + 1) (by omega) (by omega)).1).fr rfl (funext fun k => by rw [zup_o _ _ _ _ (by omega), zup_o _ _ _ _ (by omega)]) rfl, ?_⟩
      rw [zup_o _ _ _ _ (by omega)]
      exact zup_s _ _ _ _
    · refine ⟨(h3 j (by omega)).1.fr (zndI_o I (by omega)) (funext fun k => by rw [zup_o _ _ _ _ (by omega), zup_o _ _ _ _ (by omega), zndR_o R (p := T + 3 + 2 * j) (by omega)]) (zndI_o I (by omega)), ?_⟩
      rw [zup_o _ _ _ _ (by omega), zup_k _ _ _ _ (by omega), zndR_o R (p := T + 1) (by omega)]
      exact (h3 j (by omega)).2
  · rw [zndI_o I (p := o) (by omega), show (zup (zup (zndR R (T + 3 + 2 * i)) (T + 1) (i : Int) (some (T + 3 + 2 * i))) (T + 2) (i : Int) (some (T + 3 + 2 * i))) o = R o from funext fun k => by rw [zup_o _ _ _ _ (by omega), zup_o _ _ _ _ (by omega), zndR_o R (p := o) (by omega)]]
    exact h4 o (by omega) b
theorem s_X5_loop {T : Nat} (hT : KT T) : ∀ (j i m : Nat) (I : Nat → Int → Int) (R : Nat → Int → Option Nat) (n : Nat × Nat), i + j = 24 → m = (T + 3 + 2 * i) → n = (2 + 2 * i, 48 + 19 * i) → FTi T i I R → ∃ (I' : Nat → Int → Int) (R' : Nat → Int → Option Nat), Ev M_X5_init 40 [(1, zi (i : Int)), (0, zr (some T))] [] (KK.take m, I, R) n (.inl none, (KK.take (T + 51), I', R')) ∧ FTi T 24 I' R' ∧ ∀ o, (o < T ∨ T + 51 ≤ o) → I' o = I o ∧ R' o = R o := by
  intro j
  induction j with
  | zero =>
    intro i m I R n hij hm hn hF
    subst hm
    subst hn
    have hi : i = 24 := by omega
    subst hi
    refine ⟨I, R, ?_, hF, fun _ _ => ⟨rfl, rfl⟩⟩
    refine Ev.iload_n (pc := 40) (i := 1) dX5_init_40 rfl rfl ?_
    refine Ev.bipush (pc := 41) dX5_init_41 ?_
    refine Ev.icmp_ge (pc := 43) (tgt := 77) dX5_init_43 rfl (fun hc => ?_) (fun hc => absurd (by omega) hc)
    exact Ev.vret (pc := 77) dX5_init_77 rfl ⟨by decide, by decide⟩
  | succ j ih =>
    intro i m I R n hij hm hn hF
    subst hm
    subst hn
    have hi : i < 24 := by omega
    obtain ⟨h1, h2, h3, h4⟩ := id hF
    obtain ⟨kN, kL⟩ := hT.2.2.2 i hi
    have hN := s_X3_init (I := I) (R := R) kN kL (h4 ((T + 3 + 2 * i) + 1) (by omega) (by omega)).1
    obtain ⟨I', R', kk, f1, f2⟩ := ih (i + 1) ((T + 3 + 2 * i) + 2) (zndI I (T + 3 + 2 * i)) (zup (zup (zndR R (T + 3 + 2 * i)) (T + 1) (i : Int) (some (T + 3 + 2 * i))) (T + 2) (i : Int) (some (T + 3 + 2 * i))) (2 + 2 * (i + 1), 48 + 19 * (i + 1)) (by omega) (by omega) rfl (hF.step hi)
    have hR0 : R T 0 = some (T + 1) := h2.1
    have hR1 : R T 1 = some (T + 2) := h2.2
    have gR0 : (zndR R (T + 3 + 2 * i)) T 0 = some (T + 1) := by rw [zndR_o R (p := T) (by omega)]; exact hR0
    refine ⟨I', R', ?_, f1, fun o ho => ?_⟩
    · refine Ev.iload_n (pc := 40) (i := 1) dX5_init_40 rfl rfl ?_
      refine Ev.bipush (pc := 41) dX5_init_41 ?_
      refine Ev.icmp_ge (pc := 43) (tgt := 77) dX5_init_43 rfl (fun hc => absurd hc (by omega)) (fun hc => ?_)
      refine Ev.aload_n (pc := 46) (i := 0) dX5_init_46 rfl rfl ?_
      refine Ev.gR (pc := 47) (r := some (T + 1)) dX5_init_47 fl_X5_11 (kt_at (by omega) hT.1) rfl hR0 ?_
      refine Ev.iload_n (pc := 50) (i := 1) dX5_init_50 rfl rfl ?_
      refine Ev.newK (pc := 51) (n := (2 + 2 * i, 48 + 19 * i)) (m := (T + 3 + 2 * i)) (c := 1) dX5_init_51 (by decide) (zgw_in (List.mem_of_getElem? (i := 151) (by decide +kernel)) rfl) (zgw_in (List.mem_of_getElem? (i := 153) (by decide +kernel)) rfl) (zgw_in (List.mem_of_getElem? (i := 94) (by decide +kernel)) rfl) kN (h4 (T + 3 + 2 * i) (by omega) (by omega)).1 (h4 (T + 3 + 2 * i) (by omega) (by omega)).2 ⟨by show 2 + 2 * i + 1 ≤ 50; omega, by show 48 + 19 * i + 15 ≤ 504; omega⟩ ?_
      refine Ev.dup (pc := 54) dX5_init_54 rfl ?_
      refine Ev.callIN (pc := 55) (n := (2 + 2 * i + 1, 48 + 19 * i + 15)) (as := []) (st := [zr (some (T + 3 + 2 * i)), zi (i : Int), zr (some (T + 1))]) hN dX5_init_55 ok_X3_init (lk_X5_30 rfl) rfl rfl ⟨(Nat.le_of_ble_eq_true rfl), (Nat.le_of_ble_eq_true rfl)⟩ rfl (Nat.le_of_ble_eq_true rfl) (Nat.le_of_ble_eq_true rfl) ⟨by show 2 + 2 * i + 1 + 1 ≤ 50; omega, by show 48 + 19 * i + 15 + 4 ≤ 504; omega⟩ ?_
      refine Ev.aaT (pc := 58) (n := (2 + 2 * i + 1 + 1, 48 + 19 * i + 15 + 4)) (xo := (T + 3 + 2 * i)) (ob := T + 1) dX5_init_58 (kt_at (by omega) hT.2.1) (Or.inl ⟨rfl, rfl⟩) (kt_at (by omega) kN) (by omega) (by omega) ?_
      refine Ev.aload_n (pc := 59) (n := (2 + 2 * i + 1 + 1, 48 + 19 * i + 15 + 4)) (i := 0) dX5_init_59 rfl rfl ?_
      refine Ev.gR (pc := 60) (n := (2 + 2 * i + 1 + 1, 48 + 19 * i + 15 + 4)) (r := some (T + 2)) dX5_init_60 fl_X5_17 (kt_at (by omega) hT.1) rfl ((zup_o _ _ _ _ (by omega)).trans ((congrFun (zndR_o R (p := T) (by omega)) 1).trans hR1)) ?_
      refine Ev.iload_n (pc := 63) (n := (2 + 2 * i + 1 + 1, 48 + 19 * i + 15 + 4)) (i := 1) dX5_init_63 rfl rfl ?_
      refine Ev.aload_n (pc := 64) (n := (2 + 2 * i + 1 + 1, 48 + 19 * i + 15 + 4)) (i := 0) dX5_init_64 rfl rfl ?_
      refine Ev.gR (pc := 65) (n := (2 + 2 * i + 1 + 1, 48 + 19 * i + 15 + 4)) (r := some (T + 1)) dX5_init_65 fl_X5_11 (kt_at (by omega) hT.1) rfl ((zup_o _ _ _ _ (by omega)).trans gR0) ?_
      refine Ev.iload_n (pc := 68) (n := (2 + 2 * i + 1 + 1, 48 + 19 * i + 15 + 4)) (i := 1) dX5_init_68 rfl rfl ?_
      refine Ev.aa (pc := 69) (n := (2 + 2 * i + 1 + 1, 48 + 19 * i + 15 + 4)) (r := some (T + 3 + 2 * i)) dX5_init_69 (kt_at (by omega) hT.2.1) (by decide) (by omega) (by omega) (zup_s _ _ _ _) ?_
      refine Ev.aaT (pc := 70) (n := (2 + 2 * i + 1 + 1, 48 + 19 * i + 15 + 4)) (xo := (T + 3 + 2 * i)) (ob := T + 2) dX5_init_70 (kt_at (by omega) hT.2.2.1) (Or.inl ⟨rfl, rfl⟩) (kt_at (by omega) kN) (by omega) (by omega) ?_
      refine Ev.iinc (pc := 71) (n := (2 + 2 * i + 1 + 1, 48 + 19 * i + 15 + 4)) (L' := [(1, zi ((i : Int) + 1)), (0, zr (some T))]) dX5_init_71 rfl (Nat.le_of_ble_eq_true rfl) ⟨by omega, by omega⟩ rfl ?_
      refine Ev.goto (pc := 74) (n := (2 + 2 * i + 1 + 1, 48 + 19 * i + 15 + 4)) (tgt := 40) dX5_init_74 rfl ?_
      exact Ev.wide (by show 2 + 2 * i + 1 + 1 ≤ 2 + 2 * (i + 1); omega) (by show 48 + 19 * i + 15 + 4 ≤ 48 + 19 * (i + 1); omega) kk
    · obtain ⟨g1, g2⟩ := f2 o ho
      exact ⟨g1.trans (zndI_o I (by omega)), g2.trans (funext fun k => by rw [zup_o _ _ _ _ (by omega), zup_o _ _ _ _ (by omega), zndR_o R (p := o) (by omega)])⟩
theorem s_X5_init {T : Nat} (hT : KT T) {I : Nat → Int → Int} {R : Nat → Int → Option Nat} (hf : zFrs I R (T + 1) (T + 51)) : ∃ (I' : Nat → Int → Int) (R' : Nat → Int → Option Nat), Ev M_X5_init 0 [(0, zr (some T))] [] (KK.take (T + 1), I, R) (0, 0) (.inl none, (KK.take (T + 51), I', R')) ∧ FTi T 24 I' R' ∧ ∀ o, (o < T ∨ T + 51 ≤ o) → I' o = I o ∧ R' o = R o := by
  have hF : FTi T 0 (zup (zup (zup I T 2 1) T 3 1) T 4 99) (zup (zup R T 0 (some (T + 1))) T 1 (some (T + 2))) := by
    refine ⟨⟨by simp [zup], by simp [zup], by simp [zup]⟩, ⟨by simp [zup], by simp [zup]⟩, fun j hj => absurd hj (by omega), fun o a b => ⟨fun k => ?_, fun k => ?_⟩⟩
    · rw [zup_o _ _ _ _ (by omega), zup_o _ _ _ _ (by omega), zup_o _ _ _ _ (by omega)]
      exact (hf o (by omega) b).1 k
    · rw [zup_o _ _ _ _ (by omega), zup_o _ _ _ _ (by omega)]
      exact (hf o (by omega) b).2 k
  obtain ⟨I', R', kk, f1, f2⟩ := s_X5_loop hT 24 0 (T + 3) _ _ (2, 48) rfl rfl rfl hF
  refine ⟨I', R', ?_, f1, fun o ho => ⟨(f2 o ho).1.trans (funext fun k => by rw [zup_o _ _ _ _ (by omega), zup_o _ _ _ _ (by omega), zup_o _ _ _ _ (by omega)]), (f2 o ho).2.trans (funext fun k => by rw [zup_o _ _ _ _ (by omega), zup_o _ _ _ _ (by omega)])⟩⟩
  refine Ev.aload_n (pc := 0) (n := (0, 0)) (i := 0) dX5_init_0 rfl rfl ?_
  refine Ev.objInit (pc := 1) (n := (0, 0)) dX5_init_1 (lk_X5_3 rfl) ⟨(Nat.le_of_ble_eq_true rfl), (Nat.le_of_ble_eq_true rfl)⟩ (Nat.le_of_ble_eq_true rfl) rfl ?_
  refine Ev.aload_n (pc := 4) (n := (0, 0)) (i := 0) dX5_init_4 rfl rfl ?_
  refine Ev.bipush (pc := 5) (n := (0, 0)) dX5_init_5 ?_
  refine Ev.newN (pc := 7) (n := (0, 0)) (m := T + 1) (N := 24) dX5_init_7 (zgw_in (List.mem_of_getElem? (i := 151) (by decide +kernel)) rfl) hT.2.1 (fun k => (hf (T + 1) (by omega) (by omega)).2 k) rfl (by decide) ⟨(Nat.le_of_ble_eq_true rfl), (Nat.le_of_ble_eq_true rfl)⟩ ?_
  refine Ev.puF (pc := 10) (n := (1, 24)) dX5_init_10 fl_X5_11 (kt_at (by omega) hT.1) rfl rfl rfl rfl ?_
  refine Ev.aload_n (pc := 13) (n := (1, 24)) (i := 0) dX5_init_13 rfl rfl ?_
  refine Ev.bipush (pc := 14) (n := (1, 24)) dX5_init_14 ?_
  refine Ev.newN (pc := 16) (n := (1, 24)) (m := T + 2) (N := 24) dX5_init_16 (zgw_in (List.mem_of_getElem? (i := 151) (by decide +kernel)) rfl) hT.2.2.1 (fun k => (by rw [zup_o _ _ _ _ (by omega)]; exact (hf (T + 2) (by omega) (by omega)).2 k)) rfl (by decide) ⟨(Nat.le_of_ble_eq_true rfl), (Nat.le_of_ble_eq_true rfl)⟩ ?_
  refine Ev.puF (pc := 19) (n := (2, 48)) dX5_init_19 fl_X5_17 (kt_at (by omega) hT.1) rfl rfl rfl rfl ?_
  refine Ev.aload_n (pc := 22) (n := (2, 48)) (i := 0) dX5_init_22 rfl rfl ?_
  refine Ev.iconst (pc := 23) (n := (2, 48)) dX5_init_23 ?_
  refine Ev.puI (pc := 24) (n := (2, 48)) dX5_init_24 fl_X5_20 (kt_at (by omega) hT.1) rfl rfl (fun h9 => by cases h9) ?_
  refine Ev.aload_n (pc := 27) (n := (2, 48)) (i := 0) dX5_init_27 rfl rfl ?_
  refine Ev.iconst (pc := 28) (n := (2, 48)) dX5_init_28 ?_
  refine Ev.puI (pc := 29) (n := (2, 48)) dX5_init_29 fl_X5_24 (kt_at (by omega) hT.1) rfl rfl (fun h9 => by cases h9) ?_
  refine Ev.aload_n (pc := 32) (n := (2, 48)) (i := 0) dX5_init_32 rfl rfl ?_
  refine Ev.bipush (pc := 33) (n := (2, 48)) dX5_init_33 ?_
  refine Ev.puI (pc := 35) (n := (2, 48)) dX5_init_35 fl_X5_27 (kt_at (by omega) hT.1) rfl rfl (fun h9 => by cases h9) ?_
  refine Ev.iconst (pc := 38) (n := (2, 48)) dX5_init_38 ?_
  refine Ev.istore_n (pc := 39) (n := (2, 48)) (i := 1) (L' := [(1, zi 0), (0, zr (some T))]) dX5_init_39 rfl (Nat.le_of_ble_eq_true rfl) rfl ?_
  exact kk
