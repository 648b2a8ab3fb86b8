/-- nothing but the present state and what is worked with has changed -/
def zFr (I I2 : Nat → Int → Int) : Prop := (∀ o, o < 260 ∨ o = 262 ∨ 271 ≤ o → I2 o = I o) ∧ (∀ x : Int, x ≠ 11 → x ≠ 12 → I2 260 x = I 260 x) ∧ ∀ x : Int, 171 ≤ x → x < 855 → I2 261 x = I 261 x
def zFs (I I2 : Nat → Int → Int) : Prop := (∀ o, o < 261 ∨ o = 262 ∨ 271 ≤ o → I2 o = I o) ∧ ∀ x : Int, 171 ≤ x → x < 855 → I2 261 x = I 261 x
theorem zFs.rfl' (I : Nat → Int → Int) : zFs I I := ⟨fun _ _ => rfl, fun _ _ _ => rfl⟩
theorem zFs.trans {I I2 I3 : Nat → Int → Int} (h1 : zFs I I2) (h2 : zFs I2 I3) : zFs I I3 := ⟨fun o a => (h2.1 o a).trans (h1.1 o a), fun x a b => (h2.2 x a b).trans (h1.2 x a b)⟩
theorem zFs.row (I : Nat → Int → Int) {x : Int} (v : Int) (hx : x < 171) : zFs I (zup I 261 x v) := ⟨fun o a => funext fun y => zup_o _ _ _ _ (by omega), fun y a b => zup_k _ _ _ _ (by omega)⟩
theorem zFs.fr {I I2 : Nat → Int → Int} (h : zFs I I2) : zFr I I2 := ⟨fun o a => h.1 o (by omega), fun x _ _ => congrFun (h.1 260 (by decide)) x, h.2⟩
theorem zKeep.fs {I I2 : Nat → Int → Int} (h : zKeep I I2) : zFs I I2 := ⟨fun o a => h.1 o (by omega), fun x a b => h.2 x (Or.inr ⟨a, b⟩)⟩
theorem zFr.rfl' (I : Nat → Int → Int) : zFr I I := ⟨fun _ _ => rfl, fun _ _ _ => rfl, fun _ _ _ => rfl⟩
theorem zFr.trans {I I2 I3 : Nat → Int → Int} (h1 : zFr I I2) (h2 : zFr I2 I3) : zFr I I3 := ⟨fun o a => (h2.1 o a).trans (h1.1 o a), fun x a b => (h2.2.1 x a b).trans (h1.2.1 x a b), fun x a b => (h2.2.2 x a b).trans (h1.2.2 x a b)⟩
theorem zKeep.fr {I I2 : Nat → Int → Int} (h : zKeep I I2) : zFr I I2 := ⟨fun o a => h.1 o (by omega), fun x _ _ => congrFun (h.1 260 (by decide)) x, fun x a b => h.2 x (Or.inr ⟨a, b⟩)⟩
theorem zPk.fr {I I2 : Nat → Int → Int} (h : zPk I I2) : zFr I I2 := ⟨fun o a => h.1 o (by omega) (by omega), h.2, fun x _ _ => congrFun (h.1 261 (by decide) (by decide)) x⟩
theorem zFr.row (I : Nat → Int → Int) {x : Int} (v : Int) (hx : x < 171) : zFr I (zup I 261 x v) := ⟨fun o a => funext fun y => zup_o _ _ _ _ (by omega), fun y _ _ => zup_o _ _ _ _ (by decide), fun y a b => zup_k _ _ _ _ (by omega)⟩
theorem zPk.x {I I2 : Nat → Int → Int} (h : zPk I I2) {x v : Int} (e : I 261 x = v) : I2 261 x = v := (congrFun (h.1 261 (by decide) (by decide)) x).trans e
theorem zPk.rw {I J : Nat → Int → Int} {F : zF} (h : zPk (zrw I F) J) : ∃ I3, J = zrw I3 F ∧ zPk I I3 := by
  refine ⟨fun o x => if o = 261 then I 261 x else J o x, ?_, fun o a b => ?_, fun x a b => ?_⟩
  · funext o x
    show J o x = if o = 261 ∧ 3 ≤ x ∧ x < 171 then F ((x - 3) / 7) ((x - 3) % 7) else if o = 261 then I 261 x else J o x
    by_cases e : o = 261
    · have e2 : J 261 x = zrw I F 261 x := congrFun (h.1 261 (by decide) (by decide)) x
      rw [if_pos e, e, e2]
      unfold zrw
      by_cases c : 3 ≤ x ∧ x < 171
      · rw [if_pos ⟨rfl, c⟩]
      · rw [if_neg (fun g => c g.2)]
    · rw [if_neg (fun g => e g.1), if_neg e]
  · funext x
    show (if o = 261 then I 261 x else J o x) = I o x
    by_cases e : o = 261
    · rw [if_pos e, e]
    · rw [if_neg e, h.1 o a b, zrw_o _ _ e]
  · show (if 260 = 261 then I 261 x else J 260 x) = I 260 x
    rw [if_neg (by decide), h.2 x a b, zrw_o _ _ (by decide)]
theorem WF.pl {n : Nat} {f : zF} {dep : Nat → Nat} {B : Int} (h : WF n f dep B) : ∀ o : Nat, o < n → -1 ≤ f o 4 ∧ f o 4 ≤ 100 := fun o ho => by
  rcases Nat.eq_zero_or_pos o with e | e
  · subst e
    have : f ((0 : Nat) : Int) 4 = -1 := h.2.1.2.2.2.2
    omega
  · have := (h.2.2.2.2.1 o e ho).2.1
    omega
theorem s_changes {h : zH} {I : Nat → Int → Int} {F : zF} (hR : zRM h) {q n : Nat} {ad dl : Int} (hG : Gd q n F ad dl) (hq : q ≤ 80000) (hn : I 261 0 = n) (ha : I 261 1 = ad) (hd : I 261 2 = dl) {kind a b c : Int} (hw : IsWhy n F kind a b c 0) : ∃ (I2 : Nat → Int → Int) (n2 : Nat) (F2 : zF) (ad2 dl2 ans : Int), IsChg n F ad dl kind a b c n2 F2 ad2 dl2 ans ∧ zFs I I2 ∧ (I2 261 0 = n2 ∧ I2 261 1 = ad2 ∧ I2 261 2 = dl2) ∧ Ev M_X7_changes 0 [(0, zr (some 260)), (1, zi kind), (2, zi a), (3, zi b), (4, zi c)] [] (h.1, zrw I F, h.2.2) (0, 0) (.inl none, (h.1, zrw I2 F2, h.2.2)) := by
  obtain ⟨⟨dep, hW⟩, hN, hA, hD⟩ := hG
  have hn24 := hW.1.2
  have hB : 24 * (60 + (99 : Int) * q) ≤ 1000000000 := by omega
  rcases hw with ⟨e, hw⟩ | ⟨e, hw⟩ | ⟨e, hw⟩ | ⟨e, hw⟩ | ⟨e, hw⟩ | ⟨e, hw⟩ | ⟨e, hw⟩ | ⟨e, hw⟩ <;> subst e
  · skip
    obtain ⟨p, e, hp, hg, hr, hdd, hp1, hn9⟩ := wAdd_pos hw.symm
    refine ⟨zup (zup I 261 0 (n + 1)) 261 1 (ad + 1), n + 1, fadd n F ad 0 a b 0, ad + 1, dl, ad, Or.inl (⟨rfl, rfl, rfl, rfl, rfl, rfl⟩), (zFs.row _ _ (by omega)).trans (zFs.row _ _ (by omega)), ⟨(zup_k _ _ _ _ (by decide)).trans ((zup_s _ _ _ _).trans (by omega)), zup_s _ _ _ _, (zup_k _ _ _ _ (by decide)).trans ((zup_k _ _ _ _ (by decide)).trans hd)⟩, ?_⟩
    refine Ev.iload_n (pc := 0) (n := (0, 0)) (i := 1) dX7_changes_0 rfl rfl ?_
    refine Ev.tableIn (pc := 1) (n := (0, 0)) (off := 43) (tgt := 44) dX7_changes_1 (by omega) (by omega) (by rfl) rfl ?_
    refine Ev.aload_n (pc := 44) (n := (0, 0)) (i := 0) dX7_changes_44 rfl rfl ?_
    refine Ev.iload_n (pc := 45) (n := (0, 0)) (i := 2) dX7_changes_45 rfl rfl ?_
    refine Ev.iload_n (pc := 46) (n := (0, 0)) (i := 3) dX7_changes_46 rfl rfl ?_
    refine Ev.iconst (pc := 47) (n := (0, 0)) dX7_changes_47 ?_
    refine Ev.iconst (pc := 48) (n := (0, 0)) dX7_changes_48 ?_
    refine Ev.callV (pc := 49) (n := (0, 0)) (ob := 260) (as := [zi a, zi b, zi 0, zi 0]) (st := []) (s_adds hR hn hn24 (by omega) ha (by omega)) dX7_changes_49 ok_X7_adds (lk_X7_111 rfl) ⟨(Nat.le_of_ble_eq_true rfl), (Nat.le_of_ble_eq_true rfl)⟩ (zk_at hR.1 rfl) ⟨by decide, rfl⟩ rfl (Nat.le_of_ble_eq_true rfl) (Nat.le_of_ble_eq_true rfl) ⟨(Nat.le_of_ble_eq_true rfl), (Nat.le_of_ble_eq_true rfl)⟩ ?_
    refine Ev.pop (pc := 52) (n := (0, 0)) dX7_changes_52 rfl ?_
    refine Ev.goto (pc := 53) (n := (0, 0)) (tgt := 127) dX7_changes_53 rfl ?_
    exact Ev.vret dX7_changes_127 rfl ⟨(Nat.le_of_ble_eq_true rfl), (Nat.le_of_ble_eq_true rfl)⟩
  · skip
    obtain ⟨p, e, hp, hg, hr, hdd, hp1, hn9⟩ := wAdd_pos hw.symm
    refine ⟨zup (zup I 261 0 (n + 1)) 261 1 (ad + 1), n + 1, fadd n F ad 1 a b c, ad + 1, dl, ad, Or.inr (Or.inl (⟨rfl, rfl, rfl, rfl, rfl, rfl⟩)), (zFs.row _ _ (by omega)).trans (zFs.row _ _ (by omega)), ⟨(zup_k _ _ _ _ (by decide)).trans ((zup_s _ _ _ _).trans (by omega)), zup_s _ _ _ _, (zup_k _ _ _ _ (by decide)).trans ((zup_k _ _ _ _ (by decide)).trans hd)⟩, ?_⟩
    refine Ev.iload_n (pc := 0) (n := (0, 0)) (i := 1) dX7_changes_0 rfl rfl ?_
    refine Ev.tableIn (pc := 1) (n := (0, 0)) (off := 55) (tgt := 56) dX7_changes_1 (by omega) (by omega) (by rfl) rfl ?_
    refine Ev.aload_n (pc := 56) (n := (0, 0)) (i := 0) dX7_changes_56 rfl rfl ?_
    refine Ev.iload_n (pc := 57) (n := (0, 0)) (i := 2) dX7_changes_57 rfl rfl ?_
    refine Ev.iload_n (pc := 58) (n := (0, 0)) (i := 3) dX7_changes_58 rfl rfl ?_
    refine Ev.iconst (pc := 59) (n := (0, 0)) dX7_changes_59 ?_
    refine Ev.iload (pc := 60) (n := (0, 0)) dX7_changes_60 rfl ?_
    refine Ev.callV (pc := 62) (n := (0, 0)) (ob := 260) (as := [zi a, zi b, zi 1, zi c]) (st := []) (s_adds hR hn hn24 (by omega) ha (by omega)) dX7_changes_62 ok_X7_adds (lk_X7_111 rfl) ⟨(Nat.le_of_ble_eq_true rfl), (Nat.le_of_ble_eq_true rfl)⟩ (zk_at hR.1 rfl) ⟨by decide, rfl⟩ rfl (Nat.le_of_ble_eq_true rfl) (Nat.le_of_ble_eq_true rfl) ⟨(Nat.le_of_ble_eq_true rfl), (Nat.le_of_ble_eq_true rfl)⟩ ?_
    refine Ev.pop (pc := 65) (n := (0, 0)) dX7_changes_65 rfl ?_
    refine Ev.goto (pc := 66) (n := (0, 0)) (tgt := 127) dX7_changes_66 rfl ?_
    exact Ev.vret dX7_changes_127 rfl ⟨(Nat.le_of_ble_eq_true rfl), (Nat.le_of_ble_eq_true rfl)⟩
  · skip
    obtain ⟨k, hk, ej, ht, hb9⟩ := wTask_pos hw.symm
    have hd9 : 0 ≤ b ∧ b ≤ 60 := Classical.byContradiction fun g => hb9 (if_neg g)
    have b9 := hW.2.2.2.1 k hk
    obtain ⟨len, st, sl, dp, hl2, ht2⟩ := plan_ex (hW.lst hk ht (Int.le_refl _) hd9)
    refine ⟨I, n, flast F k b, ad, dl, len 0, Or.inr (Or.inr (Or.inl (⟨rfl, rfl, rfl, rfl, k, ej, rfl, len, st, sl, dp, hl2, ht2, rfl⟩))), zFs.rfl' I, ⟨hn, ha, hd⟩, ?_⟩
    refine Ev.iload_n (pc := 0) (n := (0, 0)) (i := 1) dX7_changes_0 rfl rfl ?_
    refine Ev.tableIn (pc := 1) (n := (0, 0)) (off := 68) (tgt := 69) dX7_changes_1 (by omega) (by omega) (by rfl) rfl ?_
    refine Ev.aload_n (pc := 69) (n := (0, 0)) (i := 0) dX7_changes_69 rfl rfl ?_
    refine Ev.iload_n (pc := 70) (n := (0, 0)) (i := 2) dX7_changes_70 rfl rfl ?_
    refine Ev.iload_n (pc := 71) (n := (0, 0)) (i := 3) dX7_changes_71 rfl rfl ?_
    refine Ev.callV (pc := 72) (n := (0, 0)) (ob := 260) (as := [zi a, zi b]) (st := []) (s_lasts hR hn hn24 hk ej hd9 ⟨b9.2.1, by omega⟩) dX7_changes_72 ok_X7_lasts (lk_X7_144 rfl) ⟨(Nat.le_of_ble_eq_true rfl), (Nat.le_of_ble_eq_true rfl)⟩ (zk_at hR.1 rfl) ⟨by decide, rfl⟩ rfl (Nat.le_of_ble_eq_true rfl) (Nat.le_of_ble_eq_true rfl) ⟨(Nat.le_of_ble_eq_true rfl), (Nat.le_of_ble_eq_true rfl)⟩ ?_
    refine Ev.goto (pc := 75) (n := (0, 0)) (tgt := 127) dX7_changes_75 rfl ?_
    exact Ev.vret dX7_changes_127 rfl ⟨(Nat.le_of_ble_eq_true rfl), (Nat.le_of_ble_eq_true rfl)⟩
  · skip
    obtain ⟨len, st, sl, dp, hl, ht⟩ := plan_ex hW
    obtain ⟨k, hk, ej, htk, ha9, hs9⟩ := wBor_pos (hw len st sl dp hl ht).symm
    have b9 := hW.2.2.2.1 k hk
    refine ⟨I, n, fup F k 6 (F k 6 + b), ad, dl, F k 6 + b, Or.inr (Or.inr (Or.inr (Or.inl (⟨rfl, rfl, rfl, rfl, k, ej, rfl, rfl⟩)))), zFs.rfl' I, ⟨hn, ha, hd⟩, ?_⟩
    refine Ev.iload_n (pc := 0) (n := (0, 0)) (i := 1) dX7_changes_0 rfl rfl ?_
    refine Ev.tableIn (pc := 1) (n := (0, 0)) (off := 77) (tgt := 78) dX7_changes_1 (by omega) (by omega) (by rfl) rfl ?_
    refine Ev.aload_n (pc := 78) (n := (0, 0)) (i := 0) dX7_changes_78 rfl rfl ?_
    refine Ev.iload_n (pc := 79) (n := (0, 0)) (i := 2) dX7_changes_79 rfl rfl ?_
    refine Ev.iload_n (pc := 80) (n := (0, 0)) (i := 3) dX7_changes_80 rfl rfl ?_
    refine Ev.callV (pc := 81) (n := (0, 0)) (ob := 260) (as := [zi a, zi b]) (st := []) (s_reserves hR hn hn24 hk ej (by omega)) dX7_changes_81 ok_X7_reserves (lk_X7_153 rfl) ⟨(Nat.le_of_ble_eq_true rfl), (Nat.le_of_ble_eq_true rfl)⟩ (zk_at hR.1 rfl) ⟨by decide, rfl⟩ rfl (Nat.le_of_ble_eq_true rfl) (Nat.le_of_ble_eq_true rfl) ⟨(Nat.le_of_ble_eq_true rfl), (Nat.le_of_ble_eq_true rfl)⟩ ?_
    refine Ev.pop (pc := 84) (n := (0, 0)) dX7_changes_84 rfl ?_
    refine Ev.goto (pc := 85) (n := (0, 0)) (tgt := 127) dX7_changes_85 rfl ?_
    exact Ev.vret dX7_changes_127 rfl ⟨(Nat.le_of_ble_eq_true rfl), (Nat.le_of_ble_eq_true rfl)⟩
  · skip
    obtain ⟨k, hk, ej, htk, ha9, hs9⟩ := wBck_pos hw.symm
    have b9 := hW.2.2.2.1 k hk
    refine ⟨I, n, fup F k 6 (F k 6 + -b), ad, dl, F k 6 + -b, Or.inr (Or.inr (Or.inr (Or.inr (Or.inl (⟨rfl, rfl, rfl, rfl, k, ej, rfl, rfl⟩))))), zFs.rfl' I, ⟨hn, ha, hd⟩, ?_⟩
    refine Ev.iload_n (pc := 0) (n := (0, 0)) (i := 1) dX7_changes_0 rfl rfl ?_
    refine Ev.tableIn (pc := 1) (n := (0, 0)) (off := 87) (tgt := 88) dX7_changes_1 (by omega) (by omega) (by rfl) rfl ?_
    refine Ev.aload_n (pc := 88) (n := (0, 0)) (i := 0) dX7_changes_88 rfl rfl ?_
    refine Ev.iload_n (pc := 89) (n := (0, 0)) (i := 2) dX7_changes_89 rfl rfl ?_
    refine Ev.iload_n (pc := 90) (n := (0, 0)) (i := 3) dX7_changes_90 rfl rfl ?_
    refine Ev.ineg (pc := 91) (n := (0, 0)) dX7_changes_91 ⟨by omega, by omega⟩ ?_
    refine Ev.callV (pc := 92) (n := (0, 0)) (ob := 260) (as := [zi a, zi (-b)]) (st := []) (s_reserves hR hn hn24 hk ej (by omega)) dX7_changes_92 ok_X7_reserves (lk_X7_153 rfl) ⟨(Nat.le_of_ble_eq_true rfl), (Nat.le_of_ble_eq_true rfl)⟩ (zk_at hR.1 rfl) ⟨by decide, rfl⟩ rfl (Nat.le_of_ble_eq_true rfl) (Nat.le_of_ble_eq_true rfl) ⟨(Nat.le_of_ble_eq_true rfl), (Nat.le_of_ble_eq_true rfl)⟩ ?_
    refine Ev.pop (pc := 95) (n := (0, 0)) dX7_changes_95 rfl ?_
    refine Ev.goto (pc := 96) (n := (0, 0)) (tgt := 127) dX7_changes_96 rfl ?_
    exact Ev.vret dX7_changes_127 rfl ⟨(Nat.le_of_ble_eq_true rfl), (Nat.le_of_ble_eq_true rfl)⟩
  · skip
    obtain ⟨k, p, ⟨e1, k1, k2, k3⟩, -, -, -, -⟩ := IsWMove_pos hw
    refine ⟨I, n, fmove n F k b c, ad, dl, mcc n (fleave n F k) b c, Or.inr (Or.inr (Or.inr (Or.inr (Or.inr (Or.inl (⟨rfl, rfl, rfl, rfl, k, e1, rfl, rfl⟩)))))), zFs.rfl' I, ⟨hn, ha, hd⟩, ?_⟩
    refine Ev.iload_n (pc := 0) (n := (0, 0)) (i := 1) dX7_changes_0 rfl rfl ?_
    refine Ev.tableIn (pc := 1) (n := (0, 0)) (off := 98) (tgt := 99) dX7_changes_1 (by omega) (by omega) (by rfl) rfl ?_
    refine Ev.aload_n (pc := 99) (n := (0, 0)) (i := 0) dX7_changes_99 rfl rfl ?_
    refine Ev.iload_n (pc := 100) (n := (0, 0)) (i := 2) dX7_changes_100 rfl rfl ?_
    refine Ev.iload_n (pc := 101) (n := (0, 0)) (i := 3) dX7_changes_101 rfl rfl ?_
    refine Ev.iload (pc := 102) (n := (0, 0)) dX7_changes_102 rfl ?_
    refine Ev.callV (pc := 104) (n := (0, 0)) (ob := 260) (as := [zi a, zi b, zi c]) (st := []) (s_moves hR hn hn24 k1 hW.pl e1) dX7_changes_104 ok_X7_moves (lk_X7_128 rfl) ⟨(Nat.le_of_ble_eq_true rfl), (Nat.le_of_ble_eq_true rfl)⟩ (zk_at hR.1 rfl) ⟨by decide, rfl⟩ rfl (Nat.le_of_ble_eq_true rfl) (Nat.le_of_ble_eq_true rfl) ⟨(Nat.le_of_ble_eq_true rfl), (Nat.le_of_ble_eq_true rfl)⟩ ?_
    refine Ev.pop (pc := 107) (n := (0, 0)) dX7_changes_107 rfl ?_
    refine Ev.goto (pc := 108) (n := (0, 0)) (tgt := 127) dX7_changes_108 rfl ?_
    exact Ev.vret dX7_changes_127 rfl ⟨(Nat.le_of_ble_eq_true rfl), (Nat.le_of_ble_eq_true rfl)⟩
  · skip
    obtain ⟨k, e1, k1, k2, k3⟩ := wRem_pos hw.symm
    obtain ⟨I3, G, F3, r1, r2, r3, r4⟩ := s_removes (I := I) hR hn hn24 hW e1 hW.pl
    have hg := gcnt_bd G n
    have en : (((n : Int) - gcnt G n).toNat : Int) = n - gcnt G n := by omega
    rw [← k2] at r2
    refine ⟨zup I3 261 0 ((n : Int) - gcnt G n), ((n : Int) - gcnt G n).toNat, F3, ad, dl, gcnt G n, Or.inr (Or.inr (Or.inr (Or.inr (Or.inr (Or.inr (Or.inl (⟨rfl, rfl, rfl, k, G, e1, ⟨r2, en, r3⟩, rfl⟩))))))), ?_, ⟨(zup_s _ _ _ _).trans en.symm, (zup_k _ _ _ _ (by decide)).trans ((congrFun (r1 261 (by decide)) 1).trans ha), (zup_k _ _ _ _ (by decide)).trans ((congrFun (r1 261 (by decide)) 2).trans hd)⟩, ?_⟩
    · exact zFs.trans (I2 := I3) ⟨fun o a => r1 o (by omega), fun x _ _ => congrFun (r1 261 (by decide)) x⟩ (zFs.row _ _ (by omega))
    refine Ev.iload_n (pc := 0) (n := (0, 0)) (i := 1) dX7_changes_0 rfl rfl ?_
    refine Ev.tableIn (pc := 1) (n := (0, 0)) (off := 110) (tgt := 111) dX7_changes_1 (by omega) (by omega) (by rfl) rfl ?_
    refine Ev.aload_n (pc := 111) (n := (0, 0)) (i := 0) dX7_changes_111 rfl rfl ?_
    refine Ev.iload_n (pc := 112) (n := (0, 0)) (i := 2) dX7_changes_112 rfl rfl ?_
    refine Ev.callV (pc := 113) (n := (0, 0)) (ob := 260) (as := [zi a]) (st := []) (r4) dX7_changes_113 ok_X7_removes (lk_X7_137 rfl) ⟨(Nat.le_of_ble_eq_true rfl), (Nat.le_of_ble_eq_true rfl)⟩ (zk_at hR.1 rfl) ⟨by decide, rfl⟩ rfl (Nat.le_of_ble_eq_true rfl) (Nat.le_of_ble_eq_true rfl) ⟨(Nat.le_of_ble_eq_true rfl), (Nat.le_of_ble_eq_true rfl)⟩ ?_
    refine Ev.pop (pc := 116) (n := (0, 0)) dX7_changes_116 rfl ?_
    refine Ev.goto (pc := 117) (n := (0, 0)) (tgt := 127) dX7_changes_117 rfl ?_
    exact Ev.vret dX7_changes_127 rfl ⟨(Nat.le_of_ble_eq_true rfl), (Nat.le_of_ble_eq_true rfl)⟩
  · skip
    obtain ⟨len, st, sl, dp, hl, ht⟩ := plan_ex hW
    refine ⟨zup I 261 2 a, n, F, ad, a, mlate (len 0) a, Or.inr (Or.inr (Or.inr (Or.inr (Or.inr (Or.inr (Or.inr (⟨rfl, rfl, rfl, rfl, rfl, len, st, sl, dp, hl, ht, rfl⟩))))))), zFs.row _ _ (by omega), ⟨(zup_k _ _ _ _ (by decide)).trans hn, (zup_k _ _ _ _ (by decide)).trans ha, zup_s _ _ _ _⟩, ?_⟩
    refine Ev.iload_n (pc := 0) (n := (0, 0)) (i := 1) dX7_changes_0 rfl rfl ?_
    refine Ev.tableOut (pc := 1) (n := (0, 0)) (tgt := 120) dX7_changes_1 (by omega) rfl ?_
    refine Ev.aload_n (pc := 120) (n := (0, 0)) (i := 0) dX7_changes_120 rfl rfl ?_
    refine Ev.gR (pc := 121) (n := (0, 0)) (r := (some 261)) dX7_changes_121 fl_X7_7 (zk_at hR.1 rfl) rfl hR.2.1 ?_
    refine Ev.iconst (pc := 124) (n := (0, 0)) dX7_changes_124 ?_
    refine Ev.iload_n (pc := 125) (n := (0, 0)) (i := 2) dX7_changes_125 rfl rfl ?_
    refine Ev.iast (pc := 126) (n := (0, 0)) dX7_changes_126 (zk_at hR.1 rfl) (by omega) (by omega) ?_
    refine Ev.hpeq (h' := (h.1, zrw (zup I 261 2 a) F, h.2.2)) (congrArg (fun I9 => (h.1, I9, h.2.2)) (zrw_up I F (x := 2) (v := a) (by omega))) ?_
    exact Ev.vret dX7_changes_127 rfl ⟨(Nat.le_of_ble_eq_true rfl), (Nat.le_of_ble_eq_true rfl)⟩
theorem s_does {h : zH} {I : Nat → Int → Int} {F : zF} (hR : zRM h) {q n : Nat} {ad dl : Int} (hG : Gd q n F ad dl) (hq : q ≤ 80000) (hn : I 261 0 = n) (ha : I 261 1 = ad) (hd : I 261 2 = dl) {kind a b c : Int} (hk : kind = 1 ∨ kind = 2 ∨ kind = 3 ∨ kind = 4 ∨ kind = 5 ∨ kind = 6 ∨ kind = 7 ∨ kind = 8) (h0 : I 269 0 = a) (h1 : I 269 1 = b) (h2 : I 269 2 = c) : ∃ w : Int, IsWhy n F kind a b c w ∧ (¬ w = 0 → ∃ I2 : Nat → Int → Int, zFs I I2 ∧ (I2 261 0 = n ∧ I2 261 1 = ad ∧ I2 261 2 = dl) ∧ Ev M_X7_does 0 [(0, zr (some 260)), (1, zi kind)] [] (h.1, zrw I F, h.2.2) (0, 0) (.inl (some (zi 0)), (h.1, zrw I2 F, h.2.2))) ∧ (w = 0 → ∃ (I2 : Nat → Int → Int) (n2 : Nat) (F2 : zF) (ad2 dl2 ans : Int), IsChg n F ad dl kind a b c n2 F2 ad2 dl2 ans ∧ zFs I I2 ∧ (I2 261 0 = n2 ∧ I2 261 1 = ad2 ∧ I2 261 2 = dl2) ∧ Ev M_X7_does 0 [(0, zr (some 260)), (1, zi kind)] [] (h.1, zrw I F, h.2.2) (0, 0) (.inl (some (zi 1)), (h.1, zrw I2 F2, h.2.2))) := by
  have v0 : zrw I F 269 0 = a := (congrFun (zrw_o I F (by decide)) 0).trans h0
  have v1 : zrw I F 269 1 = b := (congrFun (zrw_o I F (by decide)) 1).trans h1
  have v2 : zrw I F 269 2 = c := (congrFun (zrw_o I F (by decide)) 2).trans h2
  
  have KW : ∃ (w : Int) (I1 : Nat → Int → Int), IsWhy n F kind a b c w ∧ zFs I I1 ∧ (I1 261 0 = n ∧ I1 261 1 = ad ∧ I1 261 2 = dl) ∧ ∀ o : zO, Ev M_X7_does 157 [(5, zi w), (0, zr (some 260)), (1, zi kind), (2, zi a), (3, zi b), (4, zi c)] [] (h.1, zrw I1 F, h.2.2) (0, 0) o → Ev M_X7_does 22 [(0, zr (some 260)), (1, zi kind), (2, zi a), (3, zi b), (4, zi c)] [] (h.1, zrw I F, h.2.2) (0, 0) o := by
    obtain ⟨⟨dep, hW⟩, hN, hA, hD⟩ := hG
    have hn24 := hW.1.2
    have hB : 24 * (60 + (99 : Int) * q) ≤ 1000000000 := by omega
    rcases hk with e | e | e | e | e | e | e | e <;> subst e
    · skip
      refine ⟨wAdd n F a b 0, I, Or.inl (⟨rfl, rfl⟩), zFs.rfl' I, ⟨hn, ha, hd⟩, fun o hh => ?_⟩
      refine Ev.iload_n (pc := 22) (n := (0, 0)) (i := 1) dX7_does_22 rfl rfl ?_
      refine Ev.tableIn (pc := 23) (n := (0, 0)) (off := 41) (tgt := 64) dX7_does_23 (by omega) (by omega) (by rfl) rfl ?_
      refine Ev.aload_n (pc := 64) (n := (0, 0)) (i := 0) dX7_does_64 rfl rfl ?_
      refine Ev.iload_n (pc := 65) (n := (0, 0)) (i := 2) dX7_does_65 rfl rfl ?_
      refine Ev.iload_n (pc := 66) (n := (0, 0)) (i := 3) dX7_does_66 rfl rfl ?_
      refine Ev.iconst (pc := 67) (n := (0, 0)) dX7_does_67 ?_
      refine Ev.callV (pc := 68) (n := (0, 0)) (ob := 260) (as := [zi a, zi b, zi 0]) (st := []) (s_whyNotAdd hR hn hn24) dX7_does_68 ok_X7_whyNotAdd (lk_X7_104 rfl) ⟨(Nat.le_of_ble_eq_true rfl), (Nat.le_of_ble_eq_true rfl)⟩ (zk_at hR.1 rfl) ⟨by decide, rfl⟩ rfl (Nat.le_of_ble_eq_true rfl) (Nat.le_of_ble_eq_true rfl) ⟨(Nat.le_of_ble_eq_true rfl), (Nat.le_of_ble_eq_true rfl)⟩ ?_
      refine Ev.istore (pc := 71) (n := (0, 0)) (i := 5) (L' := [(5, zi (wAdd n F a b 0)), (0, zr (some 260)), (1, zi 1), (2, zi a), (3, zi b), (4, zi c)]) dX7_does_71 (Nat.le_of_ble_eq_true rfl) rfl ?_
      refine Ev.goto (pc := 73) (n := (0, 0)) (tgt := 157) dX7_does_73 rfl ?_
      exact hh
    · skip
      refine ⟨wAdd n F a b c, I, Or.inr (Or.inl (⟨rfl, rfl⟩)), zFs.rfl' I, ⟨hn, ha, hd⟩, fun o hh => ?_⟩
      refine Ev.iload_n (pc := 22) (n := (0, 0)) (i := 1) dX7_does_22 rfl rfl ?_
      refine Ev.tableIn (pc := 23) (n := (0, 0)) (off := 53) (tgt := 76) dX7_does_23 (by omega) (by omega) (by rfl) rfl ?_
      refine Ev.aload_n (pc := 76) (n := (0, 0)) (i := 0) dX7_does_76 rfl rfl ?_
      refine Ev.iload_n (pc := 77) (n := (0, 0)) (i := 2) dX7_does_77 rfl rfl ?_
      refine Ev.iload_n (pc := 78) (n := (0, 0)) (i := 3) dX7_does_78 rfl rfl ?_
      refine Ev.iload (pc := 79) (n := (0, 0)) dX7_does_79 rfl ?_
      refine Ev.callV (pc := 81) (n := (0, 0)) (ob := 260) (as := [zi a, zi b, zi c]) (st := []) (s_whyNotAdd hR hn hn24) dX7_does_81 ok_X7_whyNotAdd (lk_X7_104 rfl) ⟨(Nat.le_of_ble_eq_true rfl), (Nat.le_of_ble_eq_true rfl)⟩ (zk_at hR.1 rfl) ⟨by decide, rfl⟩ rfl (Nat.le_of_ble_eq_true rfl) (Nat.le_of_ble_eq_true rfl) ⟨(Nat.le_of_ble_eq_true rfl), (Nat.le_of_ble_eq_true rfl)⟩ ?_
      refine Ev.istore (pc := 84) (n := (0, 0)) (i := 5) (L' := [(5, zi (wAdd n F a b c)), (0, zr (some 260)), (1, zi 2), (2, zi a), (3, zi b), (4, zi c)]) dX7_does_84 (Nat.le_of_ble_eq_true rfl) rfl ?_
      refine Ev.goto (pc := 86) (n := (0, 0)) (tgt := 157) dX7_does_86 rfl ?_
      exact hh
    · skip
      refine ⟨wTask n F a (if 0 ≤ b ∧ b ≤ 60 then 1 else 0), I, Or.inr (Or.inr (Or.inl (⟨rfl, rfl⟩))), zFs.rfl' I, ⟨hn, ha, hd⟩, fun o hh => ?_⟩
      refine Ev.iload_n (pc := 22) (n := (0, 0)) (i := 1) dX7_does_22 rfl rfl ?_
      refine Ev.tableIn (pc := 23) (n := (0, 0)) (off := 66) (tgt := 89) dX7_does_23 (by omega) (by omega) (by rfl) rfl ?_
      refine Ev.aload_n (pc := 89) (n := (0, 0)) (i := 0) dX7_does_89 rfl rfl ?_
      refine Ev.iload_n (pc := 90) (n := (0, 0)) (i := 2) dX7_does_90 rfl rfl ?_
      refine Ev.iload_n (pc := 91) (n := (0, 0)) (i := 3) dX7_does_91 rfl rfl ?_
      refine Ev.iconst (pc := 92) (n := (0, 0)) dX7_does_92 ?_
      refine Ev.bipush (pc := 93) (n := (0, 0)) dX7_does_93 ?_
      refine Ev.callS (pc := 95) (n := (0, 0)) (as := [zi b, zi 0, zi 60]) (st := [zi a, zr (some 260)]) (s_in (h.1, zrw I F, h.2.2) b 0 60) dX7_does_95 ok_X7_in (lk_X7_91 rfl) ⟨(Nat.le_of_ble_eq_true rfl), (Nat.le_of_ble_eq_true rfl)⟩ rfl (Nat.le_of_ble_eq_true rfl) (Nat.le_of_ble_eq_true rfl) ⟨(Nat.le_of_ble_eq_true rfl), (Nat.le_of_ble_eq_true rfl)⟩ ?_
      refine Ev.callV (pc := 98) (n := (0, 0)) (ob := 260) (as := [zi a, zi (if 0 ≤ b ∧ b ≤ 60 then 1 else 0)]) (st := []) (s_whyNotTask hR hn hn24) dX7_does_98 ok_X7_whyNotTask (lk_X7_140 rfl) ⟨(Nat.le_of_ble_eq_true rfl), (Nat.le_of_ble_eq_true rfl)⟩ (zk_at hR.1 rfl) ⟨by decide, rfl⟩ rfl (Nat.le_of_ble_eq_true rfl) (Nat.le_of_ble_eq_true rfl) ⟨(Nat.le_of_ble_eq_true rfl), (Nat.le_of_ble_eq_true rfl)⟩ ?_
      refine Ev.istore (pc := 101) (n := (0, 0)) (i := 5) (L' := [(5, zi (wTask n F a (if 0 ≤ b ∧ b ≤ 60 then 1 else 0))), (0, zr (some 260)), (1, zi 3), (2, zi a), (3, zi b), (4, zi c)]) dX7_does_101 (Nat.le_of_ble_eq_true rfl) rfl ?_
      refine Ev.goto (pc := 103) (n := (0, 0)) (tgt := 157) dX7_does_103 rfl ?_
      exact hh
    · skip
      obtain ⟨len, st, sl, dp, hl, ht⟩ := plan_ex hW
      obtain ⟨I1, r1, r2⟩ := s_whyNotBorrow (I := I) hR hn hn24 hW hB hl ht (x := a) (a := b)
      have hK : zKeep I I1 := by
        rcases r1 with e | e
        · rw [e]; exact zKeep.rfl' I
        · exact e.keep
      refine ⟨wBor n F sl a b, I1, Or.inr (Or.inr (Or.inr (Or.inl (⟨rfl, fun len2 st2 sl2 dp2 hl2 ht2 => wBor_congr (fun k hk => (ht.uniq hW (hl.uniq hW hl2) ht2 k hk).2.1) a b⟩)))), hK.fs, ⟨hK.x (by omega) hn, hK.x (by omega) ha, hK.x (by omega) hd⟩, fun o hh => ?_⟩
      refine Ev.iload_n (pc := 22) (n := (0, 0)) (i := 1) dX7_does_22 rfl rfl ?_
      refine Ev.tableIn (pc := 23) (n := (0, 0)) (off := 83) (tgt := 106) dX7_does_23 (by omega) (by omega) (by rfl) rfl ?_
      refine Ev.aload_n (pc := 106) (n := (0, 0)) (i := 0) dX7_does_106 rfl rfl ?_
      refine Ev.iload_n (pc := 107) (n := (0, 0)) (i := 2) dX7_does_107 rfl rfl ?_
      refine Ev.iload_n (pc := 108) (n := (0, 0)) (i := 3) dX7_does_108 rfl rfl ?_
      refine Ev.callV (pc := 109) (n := (0, 0)) (ob := 260) (as := [zi a, zi b]) (st := []) (r2) dX7_does_109 ok_X7_whyNotBorrow (lk_X7_150 rfl) ⟨(Nat.le_of_ble_eq_true rfl), (Nat.le_of_ble_eq_true rfl)⟩ (zk_at hR.1 rfl) ⟨by decide, rfl⟩ rfl (Nat.le_of_ble_eq_true rfl) (Nat.le_of_ble_eq_true rfl) ⟨(Nat.le_of_ble_eq_true rfl), (Nat.le_of_ble_eq_true rfl)⟩ ?_
      refine Ev.istore (pc := 112) (n := (0, 0)) (i := 5) (L' := [(5, zi (wBor n F sl a b)), (0, zr (some 260)), (1, zi 4), (2, zi a), (3, zi b), (4, zi c)]) dX7_does_112 (Nat.le_of_ble_eq_true rfl) rfl ?_
      refine Ev.goto (pc := 114) (n := (0, 0)) (tgt := 157) dX7_does_114 rfl ?_
      exact hh
    · skip
      refine ⟨wBck n F a b, I, Or.inr (Or.inr (Or.inr (Or.inr (Or.inl (⟨rfl, rfl⟩))))), zFs.rfl' I, ⟨hn, ha, hd⟩, fun o hh => ?_⟩
      refine Ev.iload_n (pc := 22) (n := (0, 0)) (i := 1) dX7_does_22 rfl rfl ?_
      refine Ev.tableIn (pc := 23) (n := (0, 0)) (off := 94) (tgt := 117) dX7_does_23 (by omega) (by omega) (by rfl) rfl ?_
      refine Ev.aload_n (pc := 117) (n := (0, 0)) (i := 0) dX7_does_117 rfl rfl ?_
      refine Ev.iload_n (pc := 118) (n := (0, 0)) (i := 2) dX7_does_118 rfl rfl ?_
      refine Ev.iload_n (pc := 119) (n := (0, 0)) (i := 3) dX7_does_119 rfl rfl ?_
      refine Ev.callV (pc := 120) (n := (0, 0)) (ob := 260) (as := [zi a, zi b]) (st := []) (s_whyNotBack hR hn hn24) dX7_does_120 ok_X7_whyNotBack (lk_X7_156 rfl) ⟨(Nat.le_of_ble_eq_true rfl), (Nat.le_of_ble_eq_true rfl)⟩ (zk_at hR.1 rfl) ⟨by decide, rfl⟩ rfl (Nat.le_of_ble_eq_true rfl) (Nat.le_of_ble_eq_true rfl) ⟨(Nat.le_of_ble_eq_true rfl), (Nat.le_of_ble_eq_true rfl)⟩ ?_
      refine Ev.istore (pc := 123) (n := (0, 0)) (i := 5) (L' := [(5, zi (wBck n F a b)), (0, zr (some 260)), (1, zi 5), (2, zi a), (3, zi b), (4, zi c)]) dX7_does_123 (Nat.le_of_ble_eq_true rfl) rfl ?_
      refine Ev.goto (pc := 125) (n := (0, 0)) (tgt := 157) dX7_does_125 rfl ?_
      exact hh
    · skip
      obtain ⟨w, r1, r2⟩ := s_whyNotMove (I := I) hR hn hn24 hW (x := a) (gr := b) (r := c)
      refine ⟨w, I, Or.inr (Or.inr (Or.inr (Or.inr (Or.inr (Or.inl (⟨rfl, r1⟩)))))), zFs.rfl' I, ⟨hn, ha, hd⟩, fun o hh => ?_⟩
      refine Ev.iload_n (pc := 22) (n := (0, 0)) (i := 1) dX7_does_22 rfl rfl ?_
      refine Ev.tableIn (pc := 23) (n := (0, 0)) (off := 105) (tgt := 128) dX7_does_23 (by omega) (by omega) (by rfl) rfl ?_
      refine Ev.aload_n (pc := 128) (n := (0, 0)) (i := 0) dX7_does_128 rfl rfl ?_
      refine Ev.iload_n (pc := 129) (n := (0, 0)) (i := 2) dX7_does_129 rfl rfl ?_
      refine Ev.iload_n (pc := 130) (n := (0, 0)) (i := 3) dX7_does_130 rfl rfl ?_
      refine Ev.iload (pc := 131) (n := (0, 0)) dX7_does_131 rfl ?_
      refine Ev.callV (pc := 133) (n := (0, 0)) (ob := 260) (as := [zi a, zi b, zi c]) (st := []) (r2) dX7_does_133 ok_X7_whyNotMove (lk_X7_125 rfl) ⟨(Nat.le_of_ble_eq_true rfl), (Nat.le_of_ble_eq_true rfl)⟩ (zk_at hR.1 rfl) ⟨by decide, rfl⟩ rfl (Nat.le_of_ble_eq_true rfl) (Nat.le_of_ble_eq_true rfl) ⟨(Nat.le_of_ble_eq_true rfl), (Nat.le_of_ble_eq_true rfl)⟩ ?_
      refine Ev.istore (pc := 136) (n := (0, 0)) (i := 5) (L' := [(5, zi (w)), (0, zr (some 260)), (1, zi 6), (2, zi a), (3, zi b), (4, zi c)]) dX7_does_136 (Nat.le_of_ble_eq_true rfl) rfl ?_
      refine Ev.goto (pc := 138) (n := (0, 0)) (tgt := 157) dX7_does_138 rfl ?_
      exact hh
    · skip
      refine ⟨wRem n F a, I, Or.inr (Or.inr (Or.inr (Or.inr (Or.inr (Or.inr (Or.inl (⟨rfl, rfl⟩))))))), zFs.rfl' I, ⟨hn, ha, hd⟩, fun o hh => ?_⟩
      refine Ev.iload_n (pc := 22) (n := (0, 0)) (i := 1) dX7_does_22 rfl rfl ?_
      refine Ev.tableIn (pc := 23) (n := (0, 0)) (off := 118) (tgt := 141) dX7_does_23 (by omega) (by omega) (by rfl) rfl ?_
      refine Ev.aload_n (pc := 141) (n := (0, 0)) (i := 0) dX7_does_141 rfl rfl ?_
      refine Ev.iload_n (pc := 142) (n := (0, 0)) (i := 2) dX7_does_142 rfl rfl ?_
      refine Ev.callV (pc := 143) (n := (0, 0)) (ob := 260) (as := [zi a]) (st := []) (s_whyNotRemove hR hn hn24) dX7_does_143 ok_X7_whyNotRemove (lk_X7_131 rfl) ⟨(Nat.le_of_ble_eq_true rfl), (Nat.le_of_ble_eq_true rfl)⟩ (zk_at hR.1 rfl) ⟨by decide, rfl⟩ rfl (Nat.le_of_ble_eq_true rfl) (Nat.le_of_ble_eq_true rfl) ⟨(Nat.le_of_ble_eq_true rfl), (Nat.le_of_ble_eq_true rfl)⟩ ?_
      refine Ev.istore (pc := 146) (n := (0, 0)) (i := 5) (L' := [(5, zi (wRem n F a)), (0, zr (some 260)), (1, zi 7), (2, zi a), (3, zi b), (4, zi c)]) dX7_does_146 (Nat.le_of_ble_eq_true rfl) rfl ?_
      refine Ev.goto (pc := 148) (n := (0, 0)) (tgt := 157) dX7_does_148 rfl ?_
      exact hh
    · skip
      refine ⟨wUnt a, I, Or.inr (Or.inr (Or.inr (Or.inr (Or.inr (Or.inr (Or.inr (⟨rfl, rfl⟩))))))), zFs.rfl' I, ⟨hn, ha, hd⟩, fun o hh => ?_⟩
      refine Ev.iload_n (pc := 22) (n := (0, 0)) (i := 1) dX7_does_22 rfl rfl ?_
      refine Ev.tableOut (pc := 23) (n := (0, 0)) (tgt := 151) dX7_does_23 (by omega) rfl ?_
      refine Ev.iload_n (pc := 151) (n := (0, 0)) (i := 2) dX7_does_151 rfl rfl ?_
      refine Ev.callS (pc := 152) (n := (0, 0)) (as := [zi a]) (st := []) (s_whyNotUntil (h.1, zrw I F, h.2.2) a) dX7_does_152 ok_X7_whyNotUntil (lk_X7_159 rfl) ⟨(Nat.le_of_ble_eq_true rfl), (Nat.le_of_ble_eq_true rfl)⟩ rfl (Nat.le_of_ble_eq_true rfl) (Nat.le_of_ble_eq_true rfl) ⟨(Nat.le_of_ble_eq_true rfl), (Nat.le_of_ble_eq_true rfl)⟩ ?_
      refine Ev.istore (pc := 155) (n := (0, 0)) (i := 5) (L' := [(5, zi (wUnt a)), (0, zr (some 260)), (1, zi 8), (2, zi a), (3, zi b), (4, zi c)]) dX7_does_155 (Nat.le_of_ble_eq_true rfl) rfl ?_
      exact hh
  obtain ⟨w, I1, hw, hf, ⟨hn1, ha1, hd1⟩, hK⟩ := KW
  refine ⟨w, hw, fun hw0 => ⟨I1, hf, ⟨hn1, ha1, hd1⟩, ?_⟩, fun hw0 => ?_⟩
  · skip
    refine Ev.aload_n (pc := 0) (n := (0, 0)) (i := 0) dX7_does_0 rfl rfl ?_
    refine Ev.gR (pc := 1) (n := (0, 0)) (r := (some 269)) dX7_does_1 fl_X7_35 (zk_at hR.1 rfl) rfl hR.2.2.2.2.2.2.2.2.2.1 ?_
    refine Ev.iconst (pc := 4) (n := (0, 0)) dX7_does_4 ?_
    refine Ev.ia (pc := 5) (n := (0, 0)) (x := a) dX7_does_5 (zk_at hR.1 rfl) (by omega) (by omega) v0 ?_
    refine Ev.istore_n (pc := 6) (n := (0, 0)) (i := 2) (L' := [(2, zi a), (0, zr (some 260)), (1, zi kind)]) dX7_does_6 rfl (Nat.le_of_ble_eq_true rfl) rfl ?_
    refine Ev.aload_n (pc := 7) (n := (0, 0)) (i := 0) dX7_does_7 rfl rfl ?_
    refine Ev.gR (pc := 8) (n := (0, 0)) (r := (some 269)) dX7_does_8 fl_X7_35 (zk_at hR.1 rfl) rfl hR.2.2.2.2.2.2.2.2.2.1 ?_
    refine Ev.iconst (pc := 11) (n := (0, 0)) dX7_does_11 ?_
    refine Ev.ia (pc := 12) (n := (0, 0)) (x := b) dX7_does_12 (zk_at hR.1 rfl) (by omega) (by omega) v1 ?_
    refine Ev.istore_n (pc := 13) (n := (0, 0)) (i := 3) (L' := [(3, zi b), (2, zi a), (0, zr (some 260)), (1, zi kind)]) dX7_does_13 rfl (Nat.le_of_ble_eq_true rfl) rfl ?_
    refine Ev.aload_n (pc := 14) (n := (0, 0)) (i := 0) dX7_does_14 rfl rfl ?_
    refine Ev.gR (pc := 15) (n := (0, 0)) (r := (some 269)) dX7_does_15 fl_X7_35 (zk_at hR.1 rfl) rfl hR.2.2.2.2.2.2.2.2.2.1 ?_
    refine Ev.iconst (pc := 18) (n := (0, 0)) dX7_does_18 ?_
    refine Ev.ia (pc := 19) (n := (0, 0)) (x := c) dX7_does_19 (zk_at hR.1 rfl) (by omega) (by omega) v2 ?_
    refine Ev.istore (pc := 20) (n := (0, 0)) (i := 4) (L' := [(4, zi c), (3, zi b), (2, zi a), (0, zr (some 260)), (1, zi kind)]) dX7_does_20 (Nat.le_of_ble_eq_true rfl) rfl ?_
    refine Ev.perm [3, 4, 2, 1, 0] rfl ?_
    refine hK _ ?_
    refine Ev.iload (pc := 157) (n := (0, 0)) dX7_does_157 rfl ?_
    refine Ev.if_ne (pc := 159) (n := (0, 0)) (tgt := 171) dX7_does_159 rfl (fun hc => ?_) (fun hc => absurd hc hw0)
    refine Ev.iload (pc := 171) (n := (0, 0)) dX7_does_171 rfl ?_
    refine Ev.if_ne (pc := 173) (n := (0, 0)) (tgt := 180) dX7_does_173 rfl (fun hc2 => ?_) (fun hc2 => absurd hc2 hw0)
    refine Ev.iconst (pc := 180) (n := (0, 0)) dX7_does_180 ?_
    exact Ev.bret dX7_does_181 rfl (by decide) ⟨(Nat.le_of_ble_eq_true rfl), (Nat.le_of_ble_eq_true rfl)⟩
  · skip
    subst hw0
    obtain ⟨I2, n2, F2, ad2, dl2, ans, c1, c2, c3, c4⟩ := s_changes (I := I1) hR hG hq hn1 ha1 hd1 hw
    refine ⟨I2, n2, F2, ad2, dl2, ans, c1, hf.trans c2, c3, ?_⟩
    refine Ev.aload_n (pc := 0) (n := (0, 0)) (i := 0) dX7_does_0 rfl rfl ?_
    refine Ev.gR (pc := 1) (n := (0, 0)) (r := (some 269)) dX7_does_1 fl_X7_35 (zk_at hR.1 rfl) rfl hR.2.2.2.2.2.2.2.2.2.1 ?_
    refine Ev.iconst (pc := 4) (n := (0, 0)) dX7_does_4 ?_
    refine Ev.ia (pc := 5) (n := (0, 0)) (x := a) dX7_does_5 (zk_at hR.1 rfl) (by omega) (by omega) v0 ?_
    refine Ev.istore_n (pc := 6) (n := (0, 0)) (i := 2) (L' := [(2, zi a), (0, zr (some 260)), (1, zi kind)]) dX7_does_6 rfl (Nat.le_of_ble_eq_true rfl) rfl ?_
    refine Ev.aload_n (pc := 7) (n := (0, 0)) (i := 0) dX7_does_7 rfl rfl ?_
    refine Ev.gR (pc := 8) (n := (0, 0)) (r := (some 269)) dX7_does_8 fl_X7_35 (zk_at hR.1 rfl) rfl hR.2.2.2.2.2.2.2.2.2.1 ?_
    refine Ev.iconst (pc := 11) (n := (0, 0)) dX7_does_11 ?_
    refine Ev.ia (pc := 12) (n := (0, 0)) (x := b) dX7_does_12 (zk_at hR.1 rfl) (by omega) (by omega) v1 ?_
    refine Ev.istore_n (pc := 13) (n := (0, 0)) (i := 3) (L' := [(3, zi b), (2, zi a), (0, zr (some 260)), (1, zi kind)]) dX7_does_13 rfl (Nat.le_of_ble_eq_true rfl) rfl ?_
    refine Ev.aload_n (pc := 14) (n := (0, 0)) (i := 0) dX7_does_14 rfl rfl ?_
    refine Ev.gR (pc := 15) (n := (0, 0)) (r := (some 269)) dX7_does_15 fl_X7_35 (zk_at hR.1 rfl) rfl hR.2.2.2.2.2.2.2.2.2.1 ?_
    refine Ev.iconst (pc := 18) (n := (0, 0)) dX7_does_18 ?_
    refine Ev.ia (pc := 19) (n := (0, 0)) (x := c) dX7_does_19 (zk_at hR.1 rfl) (by omega) (by omega) v2 ?_
    refine Ev.istore (pc := 20) (n := (0, 0)) (i := 4) (L' := [(4, zi c), (3, zi b), (2, zi a), (0, zr (some 260)), (1, zi kind)]) dX7_does_20 (Nat.le_of_ble_eq_true rfl) rfl ?_
    refine Ev.perm [3, 4, 2, 1, 0] rfl ?_
    refine hK _ ?_
    refine Ev.iload (pc := 157) (n := (0, 0)) dX7_does_157 rfl ?_
    refine Ev.if_ne (pc := 159) (n := (0, 0)) (tgt := 171) dX7_does_159 rfl (fun hc => absurd rfl hc) (fun hc => ?_)
    refine Ev.aload_n (pc := 162) (n := (0, 0)) (i := 0) dX7_does_162 rfl rfl ?_
    refine Ev.iload_n (pc := 163) (n := (0, 0)) (i := 1) dX7_does_163 rfl rfl ?_
    refine Ev.iload_n (pc := 164) (n := (0, 0)) (i := 2) dX7_does_164 rfl rfl ?_
    refine Ev.iload_n (pc := 165) (n := (0, 0)) (i := 3) dX7_does_165 rfl rfl ?_
    refine Ev.iload (pc := 166) (n := (0, 0)) dX7_does_166 rfl ?_
    refine Ev.callV (pc := 168) (n := (0, 0)) (ob := 260) (as := [zi kind, zi a, zi b, zi c]) (st := []) (c4) dX7_does_168 ok_X7_changes (lk_X7_248 rfl) ⟨(Nat.le_of_ble_eq_true rfl), (Nat.le_of_ble_eq_true rfl)⟩ (zk_at hR.1 rfl) ⟨by decide, rfl⟩ rfl (Nat.le_of_ble_eq_true rfl) (Nat.le_of_ble_eq_true rfl) ⟨(Nat.le_of_ble_eq_true rfl), (Nat.le_of_ble_eq_true rfl)⟩ ?_
    refine Ev.iload (pc := 171) (n := (0, 0)) dX7_does_171 rfl ?_
    refine Ev.if_ne (pc := 173) (n := (0, 0)) (tgt := 180) dX7_does_173 rfl (fun hc2 => absurd rfl hc2) (fun hc2 => ?_)
    refine Ev.iconst (pc := 176) (n := (0, 0)) dX7_does_176 ?_
    refine Ev.goto (pc := 177) (n := (0, 0)) (tgt := 181) dX7_does_177 rfl ?_
    exact Ev.bret dX7_does_181 rfl (by decide) ⟨(Nat.le_of_ble_eq_true rfl), (Nat.le_of_ble_eq_true rfl)⟩
theorem zFr.tx {I I2 : Nat → Int → Int} (h : zFr I I2) {t : Int → Int} {L : Nat} (hT : TX I t L) : TX I2 t L := ⟨(h.2.1 4 (by decide) (by decide)).trans hT.1, hT.2.1, fun p hp => (congrFun (h.1 262 (Or.inr (Or.inl rfl))) p).trans (hT.2.2 p hp)⟩
theorem TX.rw {I : Nat → Int → Int} {t : Int → Int} {L : Nat} (hT : TX I t L) (F : zF) : TX (zrw I F) t L := ⟨(congrFun (zrw_o I F (by decide)) 4).trans hT.1, hT.2.1, fun p hp => (congrFun (zrw_o I F (by decide)) p).trans (hT.2.2 p hp)⟩
theorem TX.sav {I : Nat → Int → Int} {t : Int → Int} {L : Nat} (hT : TX I t L) (F : zF) (w : Int) : TX (fsav I F w) t L := by
  have h2 : TX (zrw (zup I 260 2 w) F) t L := (hT.up (by decide) w).rw F
  exact ⟨(zsav_260 _ (by decide)).trans h2.1, h2.2.1, fun p hp => (congrFun (zsav_o _ (by decide) (by decide)) p).trans (h2.2.2 p hp)⟩
theorem zrw_a (I : Nat → Int → Int) (F : zF) (k v : Int) : zup (zrw I F) 260 k v = zrw (zup I 260 k v) F := zrw_up2 I F (by decide)
theorem cmdK_rng (t : Int → Int) (L p : Nat) : 0 ≤ cmdK t L p ∧ cmdK t L p ≤ 8 := by
  have h := kindW_rng (wvF t L p (lt t L p - p))
  have h2 : 0 ≤ kd t L p ∧ kd t L p ≤ 8 := h
  unfold cmdK
  repeat' split
  all_goals omega
theorem s_run_loop {h : zH} (hR : zRM h) {t : Int → Int} {L : Nat} (hb : BY t L) : ∀ (f p q n : Nat) (F : zF) (ad dl : Int) (I : Nat → Int → Int) (d0 : Nat), TX I t L → Gd q n F ad dl → q + L - p ≤ 79000 → p ≤ L → L - p < f → I 260 11 = p → (I 261 0 = n ∧ I 261 1 = ad ∧ I 261 2 = dl) → fltF t L f p = -1 → d0 + L ≤ p + 1000 → ∃ (I2 : Nat → Int → Int) (d n2 : Nat) (F2 : zF) (ad2 dl2 : Int), RunsF t L f p n F ad dl d n2 F2 ad2 dl2 ∧ zFr I I2 ∧ (I2 261 0 = n2 ∧ I2 261 1 = ad2 ∧ I2 261 2 = dl2) ∧ Ev M_X7_runCommands 35 [(0, zr (some 260)), (2, zi (d0 : Int))] [] (h.1, zrw I F, h.2.2) (0, 0) (.inl (some (zi ((d0 + d : Nat) : Int))), (h.1, zrw I2 F2, h.2.2)) := by
  intro f
  induction f with
  | zero => intro p q n F ad dl I d0 hT hG hq hpL hf; omega
  | succ f ih =>
    intro p q n F ad dl I d0 hT hG hq hpL hf hp ⟨hn, ha, hd⟩ hflt hd0
    have hL := hT.2.1
    have hlg : zrw I F 260 4 = L := (congrFun (zrw_o I F (by decide)) 4).trans hT.1
    have hat : zrw I F 260 11 = p := (congrFun (zrw_o I F (by decide)) 11).trans hp
    have ef : fltF t L (f + 1) p = if p < L then (if cmdK t L p = 0 then (cmdAt t L p : Int) else fltF t L f (sk t L (cmdAt t L p))) else -1 := rfl
    by_cases h1 : p < L
    · rw [ef, if_pos h1] at hflt
      have hk0 : cmdK t L p ≠ 0 := fun e => by rw [if_pos e] at hflt; omega
      rw [if_neg hk0] at hflt
      obtain ⟨J, a1, a2, a3, a4⟩ := s_command hR (hT.rw F) hb hat hpL
      obtain ⟨I1, eJ, b1⟩ := a1.rw
      subst eJ
      have hg := cmdAt_ge t L p
      have hs := sk_ge t L (cmdAt t L p)
      have hL2 := hg.2.1 hpL
      have hL3 := hs.2 hL2
      have hg3 := hg.2.2 hk0
      have hkk := cmdK_rng t L p
      have g0 := a3 hk0
      have hnk := nOf_rng (cmdK t L p)
      have e0 : ∀ j : Nat, (j : Int) < nOf (cmdK t L p) → I1 269 j = nvF t L j (lt t L p) := fun j hj => (congrFun (zrw_o I1 F (by decide)) _).symm.trans (g0 j (by omega))
      have hp1 : I1 260 11 = cmdAt t L p := (congrFun (zrw_o I1 F (by decide)) _).symm.trans a2
      obtain ⟨w, w1, w2, w3⟩ := s_does (I := I1) (F := F) hR hG (by omega) (b1.x hn) (b1.x ha) (b1.x hd) (kind := cmdK t L p) (by omega) rfl rfl rfl
      have z0 : I1 269 0 = nvF t L 0 (lt t L p) := e0 0 (by omega)
      have z1 : 1 < nOf (cmdK t L p) → I1 269 1 = nvF t L 1 (lt t L p) := fun g => e0 1 (by omega)
      have z2 : 2 < nOf (cmdK t L p) → I1 269 2 = nvF t L 2 (lt t L p) := fun g => e0 2 (by omega)
      by_cases hw : w = 0
      · subst hw
        obtain ⟨I3, n1, F1, ad1, dl1, ans, c1, c2, ⟨c3, c4, c5⟩, c6⟩ := w3 rfl
        have w1' := w1.args z0 z1 z2
        have c1' := c1.args z0 z1 z2
        have hG1 := hG.step w1' c1'
        have hT3 : TX I3 t L := (b1.fr.trans c2.fr).tx hT
        have hp3 : zrw I3 F1 260 11 = cmdAt t L p := (congrFun (zrw_o I3 F1 (by decide)) _).trans ((congrFun (c2.1 260 (by decide)) _).trans hp1)
        have rp := s_passSpaces hR (hT3.rw F1) hp3
        rw [zrw_a] at rp
        obtain ⟨I2, d, n2, F2, ad2, dl2, q1, q2, q3, q4⟩ := ih (sk t L (cmdAt t L p)) (q + 1) n1 F1 ad1 dl1 (zup I3 260 11 (sk t L (cmdAt t L p) : Int)) (d0 + 1) (hT3.up (by decide) _) hG1 (by omega) (by omega) (by omega) (zup_s _ _ _ _) ⟨(zup_o _ _ _ _ (by decide)).trans c3, (zup_o _ _ _ _ (by decide)).trans c4, (zup_o _ _ _ _ (by decide)).trans c5⟩ hflt (by omega)
        rw [show d0 + 1 + d = d0 + (d + 1) by omega] at q4
        refine ⟨I2, d + 1, n2, F2, ad2, dl2, Or.inr ⟨h1, 0, w1', Or.inr ⟨rfl, n1, F1, ad1, dl1, ans, c1', d, rfl, q1⟩⟩, (b1.fr.trans c2.fr).trans ((zPk.at' _ _).fr.trans q2), q3, ?_⟩
        refine Ev.aload_n (pc := 35) (n := (0, 0)) (i := 0) dX7_runCommands_35 rfl rfl ?_
        refine Ev.gI (pc := 36) (n := (0, 0)) (x := (p : Int)) dX7_runCommands_36 fl_X7_201 (zk_at hR.1 rfl) rfl hat ?_
        refine Ev.aload_n (pc := 39) (n := (0, 0)) (i := 0) dX7_runCommands_39 rfl rfl ?_
        refine Ev.gI (pc := 40) (n := (0, 0)) (x := (L : Int)) dX7_runCommands_40 fl_X7_183 (zk_at hR.1 rfl) rfl hlg ?_
        refine Ev.icmp_ge (pc := 43) (n := (0, 0)) (tgt := 69) dX7_runCommands_43 rfl (fun hc => absurd hc (by omega)) (fun hc => ?_)
        refine Ev.aload_n (pc := 46) (n := (0, 0)) (i := 0) dX7_runCommands_46 rfl rfl ?_
        refine Ev.aload_n (pc := 47) (n := (0, 0)) (i := 0) dX7_runCommands_47 rfl rfl ?_
        refine Ev.callV (pc := 48) (n := (0, 0)) (ob := 260) (as := []) (st := [zr (some 260)]) (a4) dX7_runCommands_48 ok_X7_command (lk_X7_245 rfl) ⟨(Nat.le_of_ble_eq_true rfl), (Nat.le_of_ble_eq_true rfl)⟩ (zk_at hR.1 rfl) ⟨by decide, rfl⟩ rfl (Nat.le_of_ble_eq_true rfl) (Nat.le_of_ble_eq_true rfl) ⟨(Nat.le_of_ble_eq_true rfl), (Nat.le_of_ble_eq_true rfl)⟩ ?_
        refine Ev.callV (pc := 51) (n := (0, 0)) (ob := 260) (as := [zi (cmdK t L p)]) (st := []) (c6) dX7_runCommands_51 ok_X7_does (lk_X7_255 rfl) ⟨(Nat.le_of_ble_eq_true rfl), (Nat.le_of_ble_eq_true rfl)⟩ (zk_at hR.1 rfl) ⟨by decide, rfl⟩ rfl (Nat.le_of_ble_eq_true rfl) (Nat.le_of_ble_eq_true rfl) ⟨(Nat.le_of_ble_eq_true rfl), (Nat.le_of_ble_eq_true rfl)⟩ ?_
        refine Ev.if_ne (pc := 54) (n := (0, 0)) (tgt := 59) dX7_runCommands_54 rfl (fun hc2 => ?_) (fun hc2 => absurd hc2 (by decide))
        refine Ev.iinc (pc := 59) (n := (0, 0)) (L' := [(2, zi ((d0 : Int) + 1)), (0, zr (some 260))]) dX7_runCommands_59 rfl (Nat.le_of_ble_eq_true rfl) ⟨by omega, by omega⟩ rfl ?_
        refine Ev.aload_n (pc := 62) (n := (0, 0)) (i := 0) dX7_runCommands_62 rfl rfl ?_
        refine Ev.callV (pc := 63) (n := (0, 0)) (ob := 260) (as := []) (st := []) (rp) dX7_runCommands_63 ok_X7_passSpaces (lk_X7_229 rfl) ⟨(Nat.le_of_ble_eq_true rfl), (Nat.le_of_ble_eq_true rfl)⟩ (zk_at hR.1 rfl) ⟨by decide, rfl⟩ rfl (Nat.le_of_ble_eq_true rfl) (Nat.le_of_ble_eq_true rfl) ⟨(Nat.le_of_ble_eq_true rfl), (Nat.le_of_ble_eq_true rfl)⟩ ?_
        refine Ev.goto (pc := 66) (n := (0, 0)) (tgt := 35) dX7_runCommands_66 rfl ?_
        refine Ev.perm [1, 0] rfl ?_
        exact q4
      · obtain ⟨I3, c2, ⟨c3, c4, c5⟩, c6⟩ := w2 hw
        refine ⟨I3, 0, n, F, ad, dl, Or.inr ⟨h1, w, w1.args z0 z1 z2, Or.inl ⟨hw, rfl, rfl, rfl, rfl, rfl⟩⟩, b1.fr.trans c2.fr, ⟨c3, c4, c5⟩, ?_⟩
        refine Ev.aload_n (pc := 35) (n := (0, 0)) (i := 0) dX7_runCommands_35 rfl rfl ?_
        refine Ev.gI (pc := 36) (n := (0, 0)) (x := (p : Int)) dX7_runCommands_36 fl_X7_201 (zk_at hR.1 rfl) rfl hat ?_
        refine Ev.aload_n (pc := 39) (n := (0, 0)) (i := 0) dX7_runCommands_39 rfl rfl ?_
        refine Ev.gI (pc := 40) (n := (0, 0)) (x := (L : Int)) dX7_runCommands_40 fl_X7_183 (zk_at hR.1 rfl) rfl hlg ?_
        refine Ev.icmp_ge (pc := 43) (n := (0, 0)) (tgt := 69) dX7_runCommands_43 rfl (fun hc => absurd hc (by omega)) (fun hc => ?_)
        refine Ev.aload_n (pc := 46) (n := (0, 0)) (i := 0) dX7_runCommands_46 rfl rfl ?_
        refine Ev.aload_n (pc := 47) (n := (0, 0)) (i := 0) dX7_runCommands_47 rfl rfl ?_
        refine Ev.callV (pc := 48) (n := (0, 0)) (ob := 260) (as := []) (st := [zr (some 260)]) (a4) dX7_runCommands_48 ok_X7_command (lk_X7_245 rfl) ⟨(Nat.le_of_ble_eq_true rfl), (Nat.le_of_ble_eq_true rfl)⟩ (zk_at hR.1 rfl) ⟨by decide, rfl⟩ rfl (Nat.le_of_ble_eq_true rfl) (Nat.le_of_ble_eq_true rfl) ⟨(Nat.le_of_ble_eq_true rfl), (Nat.le_of_ble_eq_true rfl)⟩ ?_
        refine Ev.callV (pc := 51) (n := (0, 0)) (ob := 260) (as := [zi (cmdK t L p)]) (st := []) (c6) dX7_runCommands_51 ok_X7_does (lk_X7_255 rfl) ⟨(Nat.le_of_ble_eq_true rfl), (Nat.le_of_ble_eq_true rfl)⟩ (zk_at hR.1 rfl) ⟨by decide, rfl⟩ rfl (Nat.le_of_ble_eq_true rfl) (Nat.le_of_ble_eq_true rfl) ⟨(Nat.le_of_ble_eq_true rfl), (Nat.le_of_ble_eq_true rfl)⟩ ?_
        refine Ev.if_ne (pc := 54) (n := (0, 0)) (tgt := 59) dX7_runCommands_54 rfl (fun hc2 => absurd rfl hc2) (fun hc2 => ?_)
        refine Ev.iload_n (pc := 57) (n := (0, 0)) (i := 2) dX7_runCommands_57 rfl rfl ?_
        exact Ev.iret dX7_runCommands_58 rfl ⟨(Nat.le_of_ble_eq_true rfl), (Nat.le_of_ble_eq_true rfl)⟩
    · refine ⟨I, 0, n, F, ad, dl, Or.inl ⟨h1, rfl, rfl, rfl, rfl, rfl⟩, zFr.rfl' I, ⟨hn, ha, hd⟩, ?_⟩
      refine Ev.aload_n (pc := 35) (n := (0, 0)) (i := 0) dX7_runCommands_35 rfl rfl ?_
      refine Ev.gI (pc := 36) (n := (0, 0)) (x := (p : Int)) dX7_runCommands_36 fl_X7_201 (zk_at hR.1 rfl) rfl hat ?_
      refine Ev.aload_n (pc := 39) (n := (0, 0)) (i := 0) dX7_runCommands_39 rfl rfl ?_
      refine Ev.gI (pc := 40) (n := (0, 0)) (x := (L : Int)) dX7_runCommands_40 fl_X7_183 (zk_at hR.1 rfl) rfl hlg ?_
      refine Ev.icmp_ge (pc := 43) (n := (0, 0)) (tgt := 69) dX7_runCommands_43 rfl (fun hc => ?_) (fun hc => absurd hc (by omega))
      refine Ev.iload_n (pc := 69) (n := (0, 0)) (i := 2) dX7_runCommands_69 rfl rfl ?_
      exact Ev.iret dX7_runCommands_70 rfl ⟨(Nat.le_of_ble_eq_true rfl), (Nat.le_of_ble_eq_true rfl)⟩
theorem fltF_rng (t : Int → Int) (L : Nat) : ∀ f p : Nat, p ≤ L → -1 ≤ fltF t L f p ∧ fltF t L f p ≤ L := by
  intro f
  induction f with
  | zero => intro p hp; exact ⟨by show (-1 : Int) ≤ -1; decide, by show (-1 : Int) ≤ L; omega⟩
  | succ f ih =>
    intro p hp
    have ef : fltF t L (f + 1) p = if p < L then (if cmdK t L p = 0 then (cmdAt t L p : Int) else fltF t L f (sk t L (cmdAt t L p))) else -1 := rfl
    have h1 := cmdAt_ge t L p
    have h2 := sk_ge t L (cmdAt t L p)
    have h3 := ih (sk t L (cmdAt t L p)) (h2.2 (h1.2.1 hp))
    have h4 := h1.2.1 hp
    rw [ef]
    split
    · split <;> omega
    · omega
theorem s_runCommands_no {h : zH} {I : Nat → Int → Int} {F : zF} (hR : zRM h) {t : Int → Int} {L : Nat} (hT : TX I t L) (hb : BY t L) (hf : fltF t L (L + 1) (sk t L 0) ≠ -1) : ∃ I1 : Nat → Int → Int, zPk (zup I 260 2 0) I1 ∧ Ev M_X7_runCommands 0 [(0, zr (some 260))] [] (h.1, zrw I F, h.2.2) (0, 0) (.inl (some (zi (-10 - fltF t L (L + 1) (sk t L 0)))), (h.1, zrw I1 F, h.2.2)) := by
  have hT0 : TX (zup I 260 2 0) t L := hT.up (by decide) _
  obtain ⟨J, a1, a2⟩ := s_fault hR (hT0.rw F) hb
  obtain ⟨I1, eJ, b1⟩ := a1.rw
  subst eJ
  have hL := hT.2.1
  have hfr := fltF_rng t L (L + 1) (sk t L 0) ((sk_ge t L 0).2 (by omega))
  refine ⟨I1, b1, ?_⟩
  refine Ev.aload_n (pc := 0) (n := (0, 0)) (i := 0) dX7_runCommands_0 rfl rfl ?_
  refine Ev.iconst (pc := 1) (n := (0, 0)) dX7_runCommands_1 ?_
  refine Ev.putI (pc := 2) (n := (0, 0)) dX7_runCommands_2 fl_X7_57 (zk_at hR.1 rfl) rfl rfl (fun h9 => by cases h9) ?_
  refine Ev.hpeq (h' := (h.1, zrw (zup I 260 2 0) F, h.2.2)) (congrArg (fun I9 => (h.1, I9, h.2.2)) (zrw_up2 I F (x := 2) (v := 0) (a := 260) (by decide))) ?_
  refine Ev.aload_n (pc := 5) (n := (0, 0)) (i := 0) dX7_runCommands_5 rfl rfl ?_
  refine Ev.callV (pc := 6) (n := (0, 0)) (ob := 260) (as := []) (st := []) (a2) dX7_runCommands_6 ok_X7_fault (lk_X7_252 rfl) ⟨(Nat.le_of_ble_eq_true rfl), (Nat.le_of_ble_eq_true rfl)⟩ (zk_at hR.1 rfl) ⟨by decide, rfl⟩ rfl (Nat.le_of_ble_eq_true rfl) (Nat.le_of_ble_eq_true rfl) ⟨(Nat.le_of_ble_eq_true rfl), (Nat.le_of_ble_eq_true rfl)⟩ ?_
  refine Ev.istore_n (pc := 9) (n := (0, 0)) (i := 1) (L' := [(1, zi (fltF t L (L + 1) (sk t L 0))), (0, zr (some 260))]) dX7_runCommands_9 rfl (Nat.le_of_ble_eq_true rfl) rfl ?_
  refine Ev.iload_n (pc := 10) (n := (0, 0)) (i := 1) dX7_runCommands_10 rfl rfl ?_
  refine Ev.iconst (pc := 11) (n := (0, 0)) dX7_runCommands_11 ?_
  refine Ev.icmp_eq (pc := 12) (n := (0, 0)) (tgt := 20) dX7_runCommands_12 rfl (fun hc => absurd hc hf) (fun hc => ?_)
  refine Ev.bipush (pc := 15) (n := (0, 0)) dX7_runCommands_15 ?_
  refine Ev.iload_n (pc := 17) (n := (0, 0)) (i := 1) dX7_runCommands_17 rfl rfl ?_
  refine Ev.isub (pc := 18) (n := (0, 0)) dX7_runCommands_18 ⟨by omega, by omega⟩ ?_
  exact Ev.iret dX7_runCommands_19 rfl ⟨(Nat.le_of_ble_eq_true rfl), (Nat.le_of_ble_eq_true rfl)⟩
theorem s_runCommands {h : zH} {I : Nat → Int → Int} {F : zF} (hR : zRM h) {q n : Nat} {ad dl : Int} (hG : Gd q n F ad dl) (hq : q ≤ 78000) (hn : I 261 0 = n) (ha : I 261 1 = ad) (hd : I 261 2 = dl) (hkp : 0 ≤ I 260 1 ∧ I 260 1 ≤ 4) {t : Int → Int} {L : Nat} (hT : TX I t L) (hb : BY t L) (hf : fltF t L (L + 1) (sk t L 0) = -1) : ∃ (I1 I2 : Nat → Int → Int) (d n2 : Nat) (F2 : zF) (ad2 dl2 : Int), zPk (zup I 260 2 0) I1 ∧ RunsF t L (L + 1) (sk t L 0) n F ad dl d n2 F2 ad2 dl2 ∧ zFr (fsav I1 F 0) I2 ∧ (I2 261 0 = n2 ∧ I2 261 1 = ad2 ∧ I2 261 2 = dl2) ∧ Ev M_X7_runCommands 0 [(0, zr (some 260))] [] (h.1, zrw I F, h.2.2) (0, 0) (.inl (some (zi (d : Int))), (h.1, zrw I2 F2, h.2.2)) := by
  have hT0 : TX (zup I 260 2 0) t L := hT.up (by decide) _
  obtain ⟨J, a1, a2⟩ := s_fault hR (hT0.rw F) hb
  obtain ⟨I1, eJ, b1⟩ := a1.rw
  subst eJ
  have hL := hT.2.1
  have h12 : zup I1 260 2 0 = I1 := zup_id ((b1.2 2 (by decide) (by decide)).trans (zup_s _ _ _ _))
  have hk1 : I1 260 1 = I 260 1 := (b1.2 1 (by decide) (by decide)).trans (zup_k _ _ _ _ (by decide))
  have rs := s_savF (I := I1) (F := F) hR 0 (by rw [hk1]; exact hkp)
  rw [h12] at rs
  have hx : ∀ x : Int, x < 3 → fsav I1 F 0 261 x = I 261 x := fun x hx => (fsav_x I1 F 0 (by rw [hk1]; exact hkp) hx).trans ((congrFun (b1.1 261 (by decide) (by decide)) x).trans (zup_o _ _ _ _ (by decide)))
  have hT1 : TX (fsav I1 F 0) t L := (b1.tx hT0).sav F 0
  have hg := sk_ge t L 0
  have hT2 : TX (zup (fsav I1 F 0) 260 11 0) t L := hT1.up (by decide) _
  have rp := s_passSpaces hR (hT2.rw F) (p := 0) ((congrFun (zrw_o _ F (by decide)) _).trans (zup_s _ _ _ _))
  rw [zrw_a, zup_zup] at rp
  obtain ⟨I2, d, n2, F2, ad2, dl2, q1, q2, q3, q4⟩ := s_run_loop hR hb (L + 1) (sk t L 0) q n F ad dl (zup (fsav I1 F 0) 260 11 (sk t L 0 : Int)) 0 (hT1.up (by decide) _) hG (by omega) (by omega) (by omega) (zup_s _ _ _ _) ⟨(zup_o _ _ _ _ (by decide)).trans ((hx 0 (by omega)).trans hn), (zup_o _ _ _ _ (by decide)).trans ((hx 1 (by omega)).trans ha), (zup_o _ _ _ _ (by decide)).trans ((hx 2 (by omega)).trans hd)⟩ hf (by omega)
  rw [Nat.zero_add] at q4
  refine ⟨I1, I2, d, n2, F2, ad2, dl2, b1, q1, (zPk.at' _ _).fr.trans q2, q3, ?_⟩
  refine Ev.aload_n (pc := 0) (n := (0, 0)) (i := 0) dX7_runCommands_0 rfl rfl ?_
  refine Ev.iconst (pc := 1) (n := (0, 0)) dX7_runCommands_1 ?_
  refine Ev.putI (pc := 2) (n := (0, 0)) dX7_runCommands_2 fl_X7_57 (zk_at hR.1 rfl) rfl rfl (fun h9 => by cases h9) ?_
  refine Ev.hpeq (h' := (h.1, zrw (zup I 260 2 0) F, h.2.2)) (congrArg (fun I9 => (h.1, I9, h.2.2)) (zrw_up2 I F (x := 2) (v := 0) (a := 260) (by decide))) ?_
  refine Ev.aload_n (pc := 5) (n := (0, 0)) (i := 0) dX7_runCommands_5 rfl rfl ?_
  refine Ev.callV (pc := 6) (n := (0, 0)) (ob := 260) (as := []) (st := []) (a2) dX7_runCommands_6 ok_X7_fault (lk_X7_252 rfl) ⟨(Nat.le_of_ble_eq_true rfl), (Nat.le_of_ble_eq_true rfl)⟩ (zk_at hR.1 rfl) ⟨by decide, rfl⟩ rfl (Nat.le_of_ble_eq_true rfl) (Nat.le_of_ble_eq_true rfl) ⟨(Nat.le_of_ble_eq_true rfl), (Nat.le_of_ble_eq_true rfl)⟩ ?_
  refine Ev.istore_n (pc := 9) (n := (0, 0)) (i := 1) (L' := [(1, zi (fltF t L (L + 1) (sk t L 0))), (0, zr (some 260))]) dX7_runCommands_9 rfl (Nat.le_of_ble_eq_true rfl) rfl ?_
  refine Ev.iload_n (pc := 10) (n := (0, 0)) (i := 1) dX7_runCommands_10 rfl rfl ?_
  refine Ev.iconst (pc := 11) (n := (0, 0)) dX7_runCommands_11 ?_
  refine Ev.icmp_eq (pc := 12) (n := (0, 0)) (tgt := 20) dX7_runCommands_12 rfl (fun hc => ?_) (fun hc => absurd hf hc)
  refine Ev.aload_n (pc := 20) (n := (0, 0)) (i := 0) dX7_runCommands_20 rfl rfl ?_
  refine Ev.callV (pc := 21) (n := (0, 0)) (ob := 260) (as := []) (st := []) (rs) dX7_runCommands_21 ok_X7_saves (lk_X7_108 rfl) ⟨(Nat.le_of_ble_eq_true rfl), (Nat.le_of_ble_eq_true rfl)⟩ (zk_at hR.1 rfl) ⟨by decide, rfl⟩ rfl (Nat.le_of_ble_eq_true rfl) (Nat.le_of_ble_eq_true rfl) ⟨(Nat.le_of_ble_eq_true rfl), (Nat.le_of_ble_eq_true rfl)⟩ ?_
  refine Ev.aload_n (pc := 24) (n := (0, 0)) (i := 0) dX7_runCommands_24 rfl rfl ?_
  refine Ev.iconst (pc := 25) (n := (0, 0)) dX7_runCommands_25 ?_
  refine Ev.putI (pc := 26) (n := (0, 0)) dX7_runCommands_26 fl_X7_201 (zk_at hR.1 rfl) rfl rfl (fun h9 => by cases h9) ?_
  refine Ev.hpeq (h' := (h.1, zrw (zup (fsav I1 F 0) 260 11 0) F, h.2.2)) (congrArg (fun I9 => (h.1, I9, h.2.2)) (zrw_a _ F 11 0)) ?_
  refine Ev.iconst (pc := 29) (n := (0, 0)) dX7_runCommands_29 ?_
  refine Ev.istore_n (pc := 30) (n := (0, 0)) (i := 2) (L' := [(2, zi 0), (1, zi (fltF t L (L + 1) (sk t L 0))), (0, zr (some 260))]) dX7_runCommands_30 rfl (Nat.le_of_ble_eq_true rfl) rfl ?_
  refine Ev.aload_n (pc := 31) (n := (0, 0)) (i := 0) dX7_runCommands_31 rfl rfl ?_
  refine Ev.callV (pc := 32) (n := (0, 0)) (ob := 260) (as := []) (st := []) (rp) dX7_runCommands_32 ok_X7_passSpaces (lk_X7_229 rfl) ⟨(Nat.le_of_ble_eq_true rfl), (Nat.le_of_ble_eq_true rfl)⟩ (zk_at hR.1 rfl) ⟨by decide, rfl⟩ rfl (Nat.le_of_ble_eq_true rfl) (Nat.le_of_ble_eq_true rfl) ⟨(Nat.le_of_ble_eq_true rfl), (Nat.le_of_ble_eq_true rfl)⟩ ?_
  refine Ev.perm [2, 0] rfl ?_
  exact q4
