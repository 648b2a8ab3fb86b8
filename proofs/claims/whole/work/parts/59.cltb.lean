/-! ===== steps of the text ===== -/
theorem CS.newtext {h : zH} {σ : Nat → Nat} {cnt : Nat} {t : Int → Int} {L : Nat} {S : Nat → Nat × zF × Int × Int} (hS : CS h σ cnt t L S) {I' : Nat → Int → Int} {t' : Int → Int} {L' : Nat} (e : ∀ o, o ≠ 1 → o ≠ 2 → I' o = h.2.1 o) (hx : TXC I' t' L') : CS (h.1, I', h.2.2) σ cnt t' L' S := by
  obtain ⟨m, -, p, s, ⟨c1, c2⟩, k⟩ := hS
  refine ⟨m, hx, p, s, ⟨(congrFun (e 0 (by decide) (by decide)) 2).trans c1, c2⟩, fun j hj => (k j hj).fr (fun o h1 h2 => ⟨e o ?_ ?_, rfl⟩)⟩
  · unfold oTr at h1; omega
  · unfold oTr at h1; omega
theorem TS.newtext {h : zH} {T n : Nat} {F : zF} {ad dl : Int} (hT : TS h T n F ad dl) (h5 : 5 ≤ T) {I' : Nat → Int → Int} (e : ∀ o, o ≠ 1 → o ≠ 2 → I' o = h.2.1 o) : TS (h.1, I', h.2.2) T n F ad dl := hT.fr (fun o h1 h2 => ⟨e o (by omega) (by omega), rfl⟩)
theorem sX_type_x1 {h : zH} {σ : Nat → Nat} {cnt : Nat} {t : Int → Int} {L : Nat} {S : Nat → Nat × zF × Int × Int} (hS : CS h σ cnt t L S) {a : Int} (h2 : ¬ (0 ≤ a ∧ a ≤ 127)) : Ev M_X6_type 0 [(0, zr (some 0)), (1, zi a)] [] h (0, 0) (.inr 1, h) := by
  have hM := hS.1
  have hTr := hS.2.2.2.1.2
  have hcn := hS.2.2.2.2.1.1
  have hc4 := hS.2.2.2.2.1.2
  have hK : ∀ j, j < 5 → h.1[oTr (σ j)]? = some (2, 0) := fun j hj => zk_at hM.1 (KK_T _ (hS.2.2.1.1 j hj))
  have hs5 : ∀ j, j < 5 → oTr (σ j) + 51 ≤ 260 := fun j hj => by have := hS.2.2.1.1 j hj; unfold oTr; omega
  refine Ev.iload_n (pc := 0) (n := (0, 0)) (i := 1) dX6_type_0 rfl rfl ?_
  refine Ev.iconst (pc := 1) (n := (0, 0)) dX6_type_1 ?_
  refine Ev.bipush (pc := 2) (n := (0, 0)) dX6_type_2 ?_
  exact Ev.callSX (pc := 4) (n := (0, 0)) (as := [zi a, zi 0, zi 127]) (st := []) (s_requireRange_no h (v := a) (lo := 0) (hi := 127) h2) dX6_type_4 ok_X6_requireRange (lk_X6_66 rfl) ⟨(Nat.le_of_ble_eq_true rfl), (Nat.le_of_ble_eq_true rfl)⟩ rfl (Nat.le_of_ble_eq_true rfl) (Nat.le_of_ble_eq_true rfl) ⟨(Nat.le_of_ble_eq_true rfl), (Nat.le_of_ble_eq_true rfl)⟩ rfl
theorem sX_type_x2 {h : zH} {σ : Nat → Nat} {cnt : Nat} {t : Int → Int} {L : Nat} {S : Nat → Nat × zF × Int × Int} (hS : CS h σ cnt t L S) {a : Int} (h2 : 0 ≤ a ∧ a ≤ 127) (hL : L = 150) : Ev M_X6_type 0 [(0, zr (some 0)), (1, zi a)] [] h (0, 0) (.inr 2, h) := by
  have hM := hS.1
  have hTr := hS.2.2.2.1.2
  have hcn := hS.2.2.2.2.1.1
  have hc4 := hS.2.2.2.2.1.2
  have hK : ∀ j, j < 5 → h.1[oTr (σ j)]? = some (2, 0) := fun j hj => zk_at hM.1 (KK_T _ (hS.2.2.1.1 j hj))
  have hs5 : ∀ j, j < 5 → oTr (σ j) + 51 ≤ 260 := fun j hj => by have := hS.2.2.1.1 j hj; unfold oTr; omega
  have ka := s_appendC hM hS.2.1 a
  refine Ev.iload_n (pc := 0) (n := (0, 0)) (i := 1) dX6_type_0 rfl rfl ?_
  refine Ev.iconst (pc := 1) (n := (0, 0)) dX6_type_1 ?_
  refine Ev.bipush (pc := 2) (n := (0, 0)) dX6_type_2 ?_
  refine Ev.callS (pc := 4) (n := (0, 0)) (as := [zi a, zi 0, zi 127]) (st := []) (s_requireRange h (v := a) (lo := 0) (hi := 127) h2) dX6_type_4 ok_X6_requireRange (lk_X6_66 rfl) ⟨(Nat.le_of_ble_eq_true rfl), (Nat.le_of_ble_eq_true rfl)⟩ rfl (Nat.le_of_ble_eq_true rfl) (Nat.le_of_ble_eq_true rfl) ⟨(Nat.le_of_ble_eq_true rfl), (Nat.le_of_ble_eq_true rfl)⟩ ?_
  refine Ev.aload_n (pc := 7) (n := (1, 6)) (i := 0) dX6_type_7 rfl rfl ?_
  refine Ev.gR (pc := 8) (n := (1, 6)) (r := (some 1)) dX6_type_8 fl_X6_10 (zk_at hM.1 rfl) rfl hM.2.2.2.1 ?_
  refine Ev.iload_n (pc := 11) (n := (1, 6)) (i := 1) dX6_type_11 rfl rfl ?_
  rw [if_neg (show ¬ L < 150 by omega), if_neg (show ¬ L < 150 by omega)] at ka
  refine Ev.callV (pc := 12) (n := (1, 6)) (ob := 1) (as := [zi a]) (st := []) (ka) dX6_type_12 ok_X2_append (lk_X6_124 rfl) ⟨(Nat.le_of_ble_eq_true rfl), (Nat.le_of_ble_eq_true rfl)⟩ (zk_at hM.1 rfl) ⟨by decide, rfl⟩ rfl (Nat.le_of_ble_eq_true rfl) (Nat.le_of_ble_eq_true rfl) ⟨(Nat.le_of_ble_eq_true rfl), (Nat.le_of_ble_eq_true rfl)⟩ ?_
  refine Ev.if_ne (pc := 15) (n := (1, 6)) (tgt := 28) dX6_type_15 rfl (fun hc => absurd rfl hc) (fun hc => ?_)
  exact Ev.throwS (pc := 18) (n := (1, 6)) dX6_type_18 dX6_type_21 dX6_type_22 dX6_type_24 dX6_type_27 (by decide) rfl (List.mem_of_getElem? (i := 6) rfl) zXw2 rfl ⟨(Nat.le_of_ble_eq_true rfl), (Nat.le_of_ble_eq_true rfl)⟩ ⟨(Nat.le_of_ble_eq_true rfl), (Nat.le_of_ble_eq_true rfl)⟩
theorem sX_type {h : zH} {σ : Nat → Nat} {cnt : Nat} {t : Int → Int} {L : Nat} {S : Nat → Nat × zF × Int × Int} (hS : CS h σ cnt t L S) {a : Int} (h2 : 0 ≤ a ∧ a ≤ 127) (hL : L < 150) : Ev M_X6_type 0 [(0, zr (some 0)), (1, zi a)] [] h (0, 0) (.inl (some (zi ((L : Int) + 1))), (h.1, (zup (zup h.2.1 2 (L : Int) a) 1 1 ((L : Int) + 1)), h.2.2)) := by
  have hM := hS.1
  have hTr := hS.2.2.2.1.2
  have hcn := hS.2.2.2.2.1.1
  have hc4 := hS.2.2.2.2.1.2
  have hK : ∀ j, j < 5 → h.1[oTr (σ j)]? = some (2, 0) := fun j hj => zk_at hM.1 (KK_T _ (hS.2.2.1.1 j hj))
  have hs5 : ∀ j, j < 5 → oTr (σ j) + 51 ≤ 260 := fun j hj => by have := hS.2.2.1.1 j hj; unfold oTr; omega
  have ka := s_appendC hM hS.2.1 a
  refine Ev.iload_n (pc := 0) (n := (0, 0)) (i := 1) dX6_type_0 rfl rfl ?_
  refine Ev.iconst (pc := 1) (n := (0, 0)) dX6_type_1 ?_
  refine Ev.bipush (pc := 2) (n := (0, 0)) dX6_type_2 ?_
  refine Ev.callS (pc := 4) (n := (0, 0)) (as := [zi a, zi 0, zi 127]) (st := []) (s_requireRange h (v := a) (lo := 0) (hi := 127) h2) dX6_type_4 ok_X6_requireRange (lk_X6_66 rfl) ⟨(Nat.le_of_ble_eq_true rfl), (Nat.le_of_ble_eq_true rfl)⟩ rfl (Nat.le_of_ble_eq_true rfl) (Nat.le_of_ble_eq_true rfl) ⟨(Nat.le_of_ble_eq_true rfl), (Nat.le_of_ble_eq_true rfl)⟩ ?_
  refine Ev.aload_n (pc := 7) (n := (1, 6)) (i := 0) dX6_type_7 rfl rfl ?_
  refine Ev.gR (pc := 8) (n := (1, 6)) (r := (some 1)) dX6_type_8 fl_X6_10 (zk_at hM.1 rfl) rfl hM.2.2.2.1 ?_
  refine Ev.iload_n (pc := 11) (n := (1, 6)) (i := 1) dX6_type_11 rfl rfl ?_
  rw [if_pos hL, if_pos hL] at ka
  refine Ev.callV (pc := 12) (n := (1, 6)) (ob := 1) (as := [zi a]) (st := []) (ka) dX6_type_12 ok_X2_append (lk_X6_124 rfl) ⟨(Nat.le_of_ble_eq_true rfl), (Nat.le_of_ble_eq_true rfl)⟩ (zk_at hM.1 rfl) ⟨by decide, rfl⟩ rfl (Nat.le_of_ble_eq_true rfl) (Nat.le_of_ble_eq_true rfl) ⟨(Nat.le_of_ble_eq_true rfl), (Nat.le_of_ble_eq_true rfl)⟩ ?_
  refine Ev.if_ne (pc := 15) (n := (1, 6)) (tgt := 28) dX6_type_15 rfl (fun hc => ?_) (fun hc => absurd hc (by decide))
  refine Ev.aload_n (pc := 28) (n := (1, 6)) (i := 0) dX6_type_28 rfl rfl ?_
  refine Ev.gR (pc := 29) (n := (1, 6)) (r := (some 1)) dX6_type_29 fl_X6_10 (zk_at hM.1 rfl) rfl hM.2.2.2.1 ?_
  refine Ev.gI (pc := 32) (n := (1, 6)) (x := ((L : Int) + 1)) dX6_type_32 fl_X6_135 (zk_at hM.1 rfl) rfl (zup_s (zup h.2.1 2 (L : Int) a) 1 1 ((L : Int) + 1)) ?_
  exact Ev.iret dX6_type_35 rfl ⟨(Nat.le_of_ble_eq_true rfl), (Nat.le_of_ble_eq_true rfl)⟩
theorem sX_clear {h : zH} {σ : Nat → Nat} {cnt : Nat} {t : Int → Int} {L : Nat} {S : Nat → Nat × zF × Int × Int} (hS : CS h σ cnt t L S) : Ev M_X6_clearCommands 0 [(0, zr (some 0))] [] h (0, 0) (.inl (some (zi (L : Int))), (h.1, zup h.2.1 1 1 0, h.2.2)) := by
  have hM := hS.1
  have hTr := hS.2.2.2.1.2
  have hcn := hS.2.2.2.2.1.1
  have hc4 := hS.2.2.2.2.1.2
  have hK : ∀ j, j < 5 → h.1[oTr (σ j)]? = some (2, 0) := fun j hj => zk_at hM.1 (KK_T _ (hS.2.2.1.1 j hj))
  have hs5 : ∀ j, j < 5 → oTr (σ j) + 51 ≤ 260 := fun j hj => by have := hS.2.2.1.1 j hj; unfold oTr; omega
  refine Ev.aload_n (pc := 0) (n := (0, 0)) (i := 0) dX6_clearCommands_0 rfl rfl ?_
  refine Ev.gR (pc := 1) (n := (0, 0)) (r := (some 1)) dX6_clearCommands_1 fl_X6_10 (zk_at hM.1 rfl) rfl hM.2.2.2.1 ?_
  refine Ev.gI (pc := 4) (n := (0, 0)) (x := (L : Int)) dX6_clearCommands_4 fl_X6_135 (zk_at hM.1 rfl) rfl hS.2.1.1 ?_
  refine Ev.istore_n (pc := 7) (n := (0, 0)) (i := 1) (L' := [(1, zi (L : Int)), (0, zr (some 0))]) dX6_clearCommands_7 rfl (Nat.le_of_ble_eq_true rfl) rfl ?_
  refine Ev.aload_n (pc := 8) (n := (0, 0)) (i := 0) dX6_clearCommands_8 rfl rfl ?_
  refine Ev.gR (pc := 9) (n := (0, 0)) (r := (some 1)) dX6_clearCommands_9 fl_X6_10 (zk_at hM.1 rfl) rfl hM.2.2.2.1 ?_
  refine Ev.iconst (pc := 12) (n := (0, 0)) dX6_clearCommands_12 ?_
  refine Ev.putI (pc := 13) (n := (0, 0)) dX6_clearCommands_13 fl_X6_135 (zk_at hM.1 rfl) rfl rfl (fun h9 => by cases h9) ?_
  refine Ev.iload_n (pc := 16) (n := (0, 0)) (i := 1) dX6_clearCommands_16 rfl rfl ?_
  exact Ev.iret dX6_clearCommands_17 rfl ⟨(Nat.le_of_ble_eq_true rfl), (Nat.le_of_ble_eq_true rfl)⟩
theorem st_type {h : zH} {q : Nat} (hRL : RLn h q) (hq : q ≤ 10800) {a : Int} : OSt M_L_type M_X7_type [zi a] h q := by
  obtain ⟨σ, cnt, t, L, S, n, F, ad, dl, r⟩ := hRL
  have r0 := r
  obtain ⟨⟨hS, ar, qq, len, st, sl, dp, hC, hl, ht, hP⟩, ⟨hG9, hGS⟩, hb, hR, hK, hc⟩ := r0
  have hG : Gd q n F ad dl := hG9
  have hG' := hG
  obtain ⟨⟨dep, hw⟩, hN, hA, hd⟩ := hG'
  have hB : 24 * (60 + 99 * (q : Int)) ≤ 1000000000 := by omega
  have hn24 : n ≤ 24 := hC.n24
  have c0 := hc.get
  have h0 : h.1[0]? = some (3, 0) := zk_at hR.1 rfl
  have ho : h.1[271]? = some (9, 1) := zk_at hR.1 rfl
  have cv : ∀ v : Int, (zup h.2.1 271 0 v) 261 0 = n ∧ (zup h.2.1 271 0 v) 261 1 = ad ∧ (zup h.2.1 271 0 v) 261 2 = dl := fun v => by
    have := (r.out v).2.2.2.2.2.get
    exact ⟨this.1, this.2.1, this.2.2.1⟩
  have hT : TS h (oTr (σ 4)) n F ad dl := r.1.2
  have hq8 : q ≤ 80000 := by omega
  have hL := hS.2.1.2.1
  by_cases h2 : 0 ≤ a ∧ a ≤ 127
  rotate_left
  · have km := s_type_no1 (h := h) (I := h.2.1) (F := F) hR c0.1 hn24 h2
    exact OSt.no r (sL_type_x1 h0 (sX_type_x1 hS h2)) km (RfK.th _ _) (zup_s _ _ _ _) (by decide)
  by_cases h3 : L < 150
  rotate_left
  · have e : L = 150 := by omega
    have km := s_type_no2 (h := h) (I := h.2.1) (F := F) hR c0.1 hn24 h2 (by rw [hK.2.1.1]; omega)
    exact OSt.no r (sL_type_x2 h0 (sX_type_x2 hS h2 e)) km (RfK.th _ _) (zup_s _ _ _ _) (by decide)
  have kl := sL_type (h := h) (h1 := (h.1, (zup (zup h.2.1 2 (L : Int) a) 1 1 ((L : Int) + 1)), h.2.2)) h0 ho (sX_type hS h2 h3)
  have eI : ∀ o, o ≠ 1 → o ≠ 2 → (zup (zup h.2.1 2 (L : Int) a) 1 1 ((L : Int) + 1)) o = h.2.1 o := fun o a1 a2 => funext fun x => (zup_o _ _ _ _ a1).trans (zup_o _ _ _ _ a2)
  have hx : TXC (zup (zup h.2.1 2 (L : Int) a) 1 1 ((L : Int) + 1)) (fun x => if x = L then a else t x) (L + 1) := by
    refine ⟨zup_s _ _ _ _, by omega, fun p hp => ?_⟩
    rw [zup_o _ _ _ _ (by decide)]
    by_cases c : p = L
    · subst c
      show zup h.2.1 2 (p : Int) a 2 (p : Int) = if (p : Int) = p then a else t p
      rw [zup_s, if_pos rfl]
    · show zup h.2.1 2 (L : Int) a 2 (p : Int) = if (p : Int) = L then a else t p
      rw [zup_k _ _ _ _ (by omega), if_neg (by omega)]
      exact hS.2.1.2.2 p (by omega)
  have h5 : 5 ≤ oTr (σ 4) := by unfold oTr; omega
  have hS1 := CS.newtext hS eI hx
  have hT1 := TS.newtext hT h5 eI
  have hJ : ∀ o, 260 ≤ o → o ≠ 271 → (zup (zup (zup h.2.1 2 (L : Int) a) 1 1 ((L : Int) + 1)) 271 0 ((L : Int) + 1)) o = h.2.1 o := fun o a1 a2 => (funext fun x => zup_o _ _ _ _ a2).trans (eI o (by omega) (by omega))
  have j1 := hJ 261 (by decide) (by decide)
  have j0 := hJ 260 (by decide) (by decide)
  have j2 := hJ 262 (by decide) (by decide)
  have km := s_type (h := (h.1, zup (zup (zup h.2.1 2 (L : Int) a) 1 1 ((L : Int) + 1)) 271 0 ((L : Int) + 1), h.2.2)) (I := zup (zup (zup h.2.1 2 (L : Int) a) 1 1 ((L : Int) + 1)) 271 0 ((L : Int) + 1)) (F := F) (hR.fr rfl) ((congrFun j1 0).trans c0.1) hn24 h2 (m := (L : Int)) ((congrFun j0 4).trans hK.2.1.1) (by omega)
  have ezr : zrw (zup (zup (zup h.2.1 2 (L : Int) a) 1 1 ((L : Int) + 1)) 271 0 ((L : Int) + 1)) F = zup (zup (zup h.2.1 2 (L : Int) a) 1 1 ((L : Int) + 1)) 271 0 ((L : Int) + 1) := zrw_id fun k w a1 a2 a3 a4 => by
    rw [congrFun j1 _]
    have := hc (3 + 7 * k + w) (by omega) (by omega)
    rw [this]
    unfold sx
    rw [if_neg (by omega), if_neg (by omega), if_neg (by omega)]
    show F ((3 + 7 * k + w - 3) / 7) ((3 + 7 * k + w - 3) % 7) = F k w
    rw [show (3 + 7 * k + w - 3) / 7 = k by omega, show (3 + 7 * k + w - 3) % 7 = w by omega]
  rw [ezr] at km
  have I2x : ∀ o, o ≠ 260 → o ≠ 262 → zup (zup (zup (zup (zup (zup h.2.1 2 (L : Int) a) 1 1 ((L : Int) + 1)) 271 0 ((L : Int) + 1)) 260 2 0) 262 (L : Int) a) 260 4 ((L : Int) + 1) o = zup (zup (zup h.2.1 2 (L : Int) a) 1 1 ((L : Int) + 1)) 271 0 ((L : Int) + 1) o := fun o a1 a2 => funext fun x => (zup_o _ _ _ _ a1).trans ((zup_o _ _ _ _ a2).trans (zup_o _ _ _ _ a1))
  refine ⟨_, (h.1, zrw (zup (zup (zup (zup (zup (zup h.2.1 2 (L : Int) a) 1 1 ((L : Int) + 1)) 271 0 ((L : Int) + 1)) 260 2 0) 262 (L : Int) a) 260 4 ((L : Int) + 1)) F, h.2.2), 0, (L : Int) + 1, kl, km, ⟨?_, fun _ => ?_⟩, ⟨σ, cnt, (fun x => if x = L then a else t x), L + 1, S, n, F, ad, dl, ⟨?_, ?_⟩, ⟨r.2.1.1.mono (by omega), fun j hj => (r.2.1.2 j hj).mono (by omega)⟩, ⟨by omega, fun p hp => ?_⟩, hR.fr rfl, ?_, ?_⟩, fun o a1 => ?_, r.2.2.2.1.1, fun o a1 => hJ o (by omega) (by omega)⟩
  · show zrw (zup (zup (zup (zup (zup (zup h.2.1 2 (L : Int) a) 1 1 ((L : Int) + 1)) 271 0 ((L : Int) + 1)) 260 2 0) 262 (L : Int) a) 260 4 ((L : Int) + 1)) F 260 2 = 0
    rw [zrw_o _ _ (by decide), zup_k _ _ _ _ (by decide), zup_o _ _ _ _ (by decide)]
    exact zup_s _ _ _ _
  · show zrw (zup (zup (zup (zup (zup (zup h.2.1 2 (L : Int) a) 1 1 ((L : Int) + 1)) 271 0 ((L : Int) + 1)) 260 2 0) 262 (L : Int) a) 260 4 ((L : Int) + 1)) F 271 0 = _
    rw [zrw_o _ _ (by decide), I2x 271 (by decide) (by decide)]
    exact zup_s _ _ _ _
  · exact CS.hi (h := (h.1, (zup (zup h.2.1 2 (L : Int) a) 1 1 ((L : Int) + 1)), h.2.2)) hS1 (fun o a1 => (zrw_o _ _ (by omega)).trans ((I2x o (by omega) (by omega)).trans (funext fun x => zup_o _ _ _ _ (by omega))))
  · exact TS.hi (h := (h.1, (zup (zup h.2.1 2 (L : Int) a) 1 1 ((L : Int) + 1)), h.2.2)) hS1 hT1 (fun o a1 => (zrw_o _ _ (by omega)).trans ((I2x o (by omega) (by omega)).trans (funext fun x => zup_o _ _ _ _ (by omega))))
  · show 0 ≤ (if (p : Int) = L then a else t p) ∧ (if (p : Int) = L then a else t p) ≤ 127
    by_cases c : (p : Int) = L
    · rw [if_pos c]; exact h2
    · rw [if_neg c]; exact hb.2 p (by omega)
  · refine ⟨?_, ⟨?_, by omega, fun p hp => ?_⟩, fun j hj x a1 a2 => ?_⟩
    · show zrw (zup (zup (zup (zup (zup (zup h.2.1 2 (L : Int) a) 1 1 ((L : Int) + 1)) 271 0 ((L : Int) + 1)) 260 2 0) 262 (L : Int) a) 260 4 ((L : Int) + 1)) F 260 1 = _
      rw [zrw_o _ _ (by decide), zup_k _ _ _ _ (by decide), zup_o _ _ _ _ (by decide), zup_k _ _ _ _ (by decide)]
      exact (congrFun j0 1).trans hK.1
    · show zrw (zup (zup (zup (zup (zup (zup h.2.1 2 (L : Int) a) 1 1 ((L : Int) + 1)) 271 0 ((L : Int) + 1)) 260 2 0) 262 (L : Int) a) 260 4 ((L : Int) + 1)) F 260 4 = _
      rw [zrw_o _ _ (by decide)]
      exact zup_s _ _ _ _
    · show zrw (zup (zup (zup (zup (zup (zup h.2.1 2 (L : Int) a) 1 1 ((L : Int) + 1)) 271 0 ((L : Int) + 1)) 260 2 0) 262 (L : Int) a) 260 4 ((L : Int) + 1)) F 262 (p : Int) = (if (p : Int) = L then a else t p)
      rw [zrw_o _ _ (by decide), zup_o _ _ _ _ (by decide)]
      by_cases c : p = L
      · subst c
        rw [zup_s, if_pos rfl]
      · rw [zup_k _ _ _ _ (by omega), zup_o _ _ _ _ (by decide), if_neg (by omega)]
        exact (congrFun j2 p).trans (hK.2.1.2.2 p (by omega))
    · have hc4 := hS.2.2.2.2.1.2
      show zrw (zup (zup (zup (zup (zup (zup h.2.1 2 (L : Int) a) 1 1 ((L : Int) + 1)) 271 0 ((L : Int) + 1)) 260 2 0) 262 (L : Int) a) 260 4 ((L : Int) + 1)) F 261 (171 * ((j : Int) + 1) + x) = _
      rw [zrw_x _ _ (by omega), I2x 261 (by decide) (by decide)]
      exact (congrFun j1 _).trans (hK.2.2 j hj x a1 a2)
  · refine RC.zr ⟨?_, ?_, ?_⟩
    · exact (congrFun (I2x 261 (by decide) (by decide)) 0).trans ((congrFun j1 0).trans c0.1)
    · exact (congrFun (I2x 261 (by decide) (by decide)) 1).trans ((congrFun j1 1).trans c0.2.1)
    · exact (congrFun (I2x 261 (by decide) (by decide)) 2).trans ((congrFun j1 2).trans c0.2.2.1)
  · show zrw (zup (zup (zup (zup (zup (zup h.2.1 2 (L : Int) a) 1 1 ((L : Int) + 1)) 271 0 ((L : Int) + 1)) 260 2 0) 262 (L : Int) a) 260 4 ((L : Int) + 1)) F o = _
    rw [zrw_o _ _ (by omega), I2x o (by omega) (by omega)]
    exact hJ o (by omega) (by omega)
theorem st_clear {h : zH} {q : Nat} (hRL : RLn h q) (hq : q ≤ 10800) : OS0 zi M_X6_clearCommands M_X7_clearCommands h q := by
  obtain ⟨σ, cnt, t, L, S, n, F, ad, dl, r⟩ := hRL
  have r0 := r
  obtain ⟨⟨hS, ar, qq, len, st, sl, dp, hC, hl, ht, hP⟩, ⟨hG9, hGS⟩, hb, hR, hK, hc⟩ := r0
  have hG : Gd q n F ad dl := hG9
  have hG' := hG
  obtain ⟨⟨dep, hw⟩, hN, hA, hd⟩ := hG'
  have hB : 24 * (60 + 99 * (q : Int)) ≤ 1000000000 := by omega
  have hn24 : n ≤ 24 := hC.n24
  have c0 := hc.get
  have h0 : h.1[0]? = some (3, 0) := zk_at hR.1 rfl
  have ho : h.1[271]? = some (9, 1) := zk_at hR.1 rfl
  have cv : ∀ v : Int, (zup h.2.1 271 0 v) 261 0 = n ∧ (zup h.2.1 271 0 v) 261 1 = ad ∧ (zup h.2.1 271 0 v) 261 2 = dl := fun v => by
    have := (r.out v).2.2.2.2.2.get
    exact ⟨this.1, this.2.1, this.2.2.1⟩
  have hT : TS h (oTr (σ 4)) n F ad dl := r.1.2
  have hq8 : q ≤ 80000 := by omega
  have hL := hS.2.1.2.1
  have kl := sX_clear hS
  have eI : ∀ o, o ≠ 1 → (zup h.2.1 1 1 0) o = h.2.1 o := fun o a1 => funext fun x => zup_o _ _ _ _ a1
  have eI2 : ∀ o, o ≠ 1 → o ≠ 2 → (zup h.2.1 1 1 0) o = h.2.1 o := fun o a1 _ => eI o a1
  have hx : TXC (zup h.2.1 1 1 0) t 0 := ⟨zup_s _ _ _ _, by omega, fun p hp => absurd hp (by omega)⟩
  have h5 : 5 ≤ oTr (σ 4) := by unfold oTr; omega
  have hS1 := CS.newtext hS eI2 hx
  have hT1 := TS.newtext hT h5 eI2
  have km := s_clearCommands (h := (h.1, zup h.2.1 1 1 0, h.2.2)) (I := zup h.2.1 1 1 0) (F := F) (hR.fr rfl) ((congrFun (eI 261 (by decide)) 0).trans c0.1) hn24 (m := (L : Int)) ((congrFun (eI 260 (by decide)) 4).trans hK.2.1.1)
  have ezr : zrw (zup h.2.1 1 1 0) F = zup h.2.1 1 1 0 := by
    have e9 := c0.2.2.2
    exact zrw_id fun k w a1 a2 a3 a4 => by
      rw [congrFun (eI 261 (by decide)) _, ← e9]
      exact zrw_at _ _ ⟨a1, a2⟩ ⟨a3, a4⟩
  rw [ezr] at km
  have I2x : ∀ o, o ≠ 260 → zup (zup (zup h.2.1 1 1 0) 260 2 0) 260 4 0 o = zup h.2.1 1 1 0 o := fun o a1 => funext fun x => (zup_o _ _ _ _ a1).trans (zup_o _ _ _ _ a1)
  refine ⟨_, (h.1, zrw (zup (zup (zup h.2.1 1 1 0) 260 2 0) 260 4 0) F, h.2.2), (L : Int), kl, km, ⟨σ, cnt, t, 0, S, n, F, ad, dl, ⟨?_, ?_⟩, ⟨r.2.1.1.mono (by omega), fun j hj => (r.2.1.2 j hj).mono (by omega)⟩, ⟨by omega, fun p hp => absurd hp (by omega)⟩, hR.fr rfl, ?_, ?_⟩, fun o a1 => ?_, r.2.2.2.1.1⟩
  · exact CS.hi (h := (h.1, zup h.2.1 1 1 0, h.2.2)) hS1 (fun o a1 => (zrw_o _ _ (by omega)).trans (I2x o (by omega)))
  · exact TS.hi (h := (h.1, zup h.2.1 1 1 0, h.2.2)) hS1 hT1 (fun o a1 => (zrw_o _ _ (by omega)).trans (I2x o (by omega)))
  · refine ⟨?_, ⟨?_, by omega, fun p hp => absurd hp (by omega)⟩, fun j hj x a1 a2 => ?_⟩
    · show zrw (zup (zup (zup h.2.1 1 1 0) 260 2 0) 260 4 0) F 260 1 = _
      rw [zrw_o _ _ (by decide), zup_k _ _ _ _ (by decide), zup_k _ _ _ _ (by decide), eI 260 (by decide)]
      exact hK.1
    · show zrw (zup (zup (zup h.2.1 1 1 0) 260 2 0) 260 4 0) F 260 4 = _
      rw [zrw_o _ _ (by decide)]
      exact zup_s _ _ _ _
    · have hc4 := hS.2.2.2.2.1.2
      show zrw (zup (zup (zup h.2.1 1 1 0) 260 2 0) 260 4 0) F 261 (171 * ((j : Int) + 1) + x) = _
      rw [zrw_x _ _ (by omega), I2x 261 (by decide), eI 261 (by decide)]
      exact hK.2.2 j hj x a1 a2
  · exact RC.zr ⟨(congrFun (I2x 261 (by decide)) 0).trans ((congrFun (eI 261 (by decide)) 0).trans c0.1), (congrFun (I2x 261 (by decide)) 1).trans ((congrFun (eI 261 (by decide)) 1).trans c0.2.1), (congrFun (I2x 261 (by decide)) 2).trans ((congrFun (eI 261 (by decide)) 2).trans c0.2.2.1)⟩
  · show zrw (zup (zup (zup h.2.1 1 1 0) 260 2 0) 260 4 0) F o = _
    rw [zrw_o _ _ (by omega), I2x o (by omega), eI o (by omega)]
