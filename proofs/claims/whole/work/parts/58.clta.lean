/-! ===== steps that change ===== -/
theorem fsav_th (I : Nat → Int → Int) (F : zF) : fsav I F 0 260 2 = 0 := by
  show zsav (zrw (zup I 260 2 0) F) 260 2 = 0
  rw [zsav_260 _ (by decide), zrw_o _ _ (by decide)]
  exact zup_s _ _ _ _
theorem svS_all {P : Nat × zF × Int × Int → Prop} {cnt : Nat} {S : Nat → Nat × zF × Int × Int} {s : Nat × zF × Int × Int} (hc : cnt ≤ 4) (h : ∀ j, j < cnt → P (S j)) (hs : P s) : ∀ j, j < (if cnt = 4 then 4 else cnt + 1) → P (svS cnt S s j) := fun j hj => by
  unfold svS
  by_cases c : cnt = 4
  · rw [if_pos c] at hj
    rw [if_pos c]
    unfold putS rotS rotρ
    by_cases d : j = 3
    · rw [if_pos d]; exact hs
    · rw [if_neg d, if_pos (by omega)]; exact h (j + 1) (by omega)
  · rw [if_neg c] at hj
    rw [if_neg c]
    unfold putS
    by_cases d : j = cnt
    · rw [if_pos d]; exact hs
    · rw [if_neg d]; exact h j (by omega)
theorem gcnt_congr {G G' : Int → Int} : ∀ m : Nat, (∀ j : Nat, j < m → G j = G' j) → gcnt G m = gcnt G' m
  | 0, _ => rfl
  | m + 1, h => by
    have e1 : gcnt G (m + 1) = gcnt G m + (if G m = 1 then 1 else 0) := rfl
    have e2 : gcnt G' (m + 1) = gcnt G' m + (if G' m = 1 then 1 else 0) := rfl
    rw [e1, e2, gcnt_congr m (fun j hj => h j (by omega)), h m (by omega)]
theorem IsWMove.uniq {n : Nat} {f : zF} {x g r w w' : Int} (h : IsWMove n f x g r w) (h' : IsWMove n f x g r w') : w = w' := by
  rcases h with ⟨a, e⟩ | ⟨a1, a2, ⟨b, e⟩ | ⟨b, v, hv, e⟩⟩ <;> rcases h' with ⟨a', e'⟩ | ⟨a1', a2', ⟨b', e'⟩ | ⟨b', v', hv', e'⟩⟩
  · omega
  · exact absurd a (by omega)
  · exact absurd a (by omega)
  · exact absurd a' (by omega)
  · omega
  · exact absurd b' b
  · exact absurd a' (by omega)
  · exact absurd b b'
  · rw [e, e', hv.uniq hv']
theorem zKeep.rk {I I2 : Nat → Int → Int} (h : zKeep I I2) : RfK I I2 := ⟨⟨fun o a => h.1 o (by omega), ⟨congrFun (h.1 260 (by decide)) 1, congrFun (h.1 260 (by decide)) 4⟩, h.1 262 (by decide), fun x a b => h.2 x (Or.inr ⟨a, b⟩)⟩, fun x a => h.2 x (Or.inl a)⟩
section OSC
variable {mL mX : zM} {as : List zV} {h : zH} {q : Nat} {σ : Nat → Nat} {cnt : Nat} {t : Int → Int} {L : Nat} {S : Nat → Nat × zF × Int × Int} {n : Nat} {F : zF} {ad dl : Int}
theorem RLx.aft (r : RLx h q σ cnt t L S n F ad dl) {I3 : Nat → Int → Int} {R3 : Nat → Int → Option Nat} (k3 : ∀ o, 260 ≤ o → I3 o = h.2.1 o ∧ R3 o = h.2.2 o) (v : Int) : zRM (h.1, I3, R3) ∧ RK (zup I3 271 0 v) cnt t L S ∧ ((zup I3 271 0 v) 261 0 = n ∧ (zup I3 271 0 v) 261 1 = ad ∧ (zup I3 271 0 v) 261 2 = dl) ∧ zrw (zup I3 271 0 v) F = zup I3 271 0 v ∧ (0 ≤ (zup I3 271 0 v) 260 1 ∧ (zup I3 271 0 v) 260 1 ≤ 4) := by
  have e : ∀ o, 260 ≤ o → o ≠ 271 → (zup I3 271 0 v) o = h.2.1 o := fun o ho hne => (funext fun x => zup_o _ _ _ _ hne).trans (k3 o ho).1
  have k := r.2.2.2.2.1
  have c := r.2.2.2.2.2
  have hc4 := r.1.1.2.2.2.2.1.2
  have cc : RC (zup I3 271 0 v) (n, F, ad, dl) := fun x h0 h1 => (congrFun (e 261 (by decide) (by decide)) x).trans (c x h0 h1)
  have g := cc.get
  have kk : (zup I3 271 0 v) 260 1 = cnt := (congrFun (e 260 (by decide) (by decide)) 1).trans k.1
  exact ⟨r.2.2.2.1.fr (k3 260 (by decide)).2, ⟨kk, ⟨(congrFun (e 260 (by decide) (by decide)) 4).trans k.2.1.1, k.2.1.2.1, fun p hp => (congrFun (e 262 (by decide) (by decide)) p).trans (k.2.1.2.2 p hp)⟩, fun j hj x h0 h1 => (congrFun (e 261 (by decide) (by decide)) _).trans (k.2.2 j hj x h0 h1)⟩, ⟨g.1, g.2.1, g.2.2.1⟩, g.2.2.2, by rw [kk]; omega⟩
theorem OSt.chg (r : RLx h q σ cnt t L S n F ad dl) {σ2 : Nat → Nat} {I3 : Nat → Int → Int} {R3 : Nat → Int → Option Nat} {n2 : Nat} {F2 : zF} {ad2 dl2 : Int} (k1 : CS (h.1, I3, R3) σ2 (if cnt = 4 then 4 else cnt + 1) t L (svS cnt S (n, F, ad, dl))) (k2 : TS (h.1, I3, R3) (oTr (σ2 4)) n2 F2 ad2 dl2) (k3 : ∀ o, 260 ≤ o → I3 o = h.2.1 o ∧ R3 o = h.2.2 o) (hG2 : Gd (q + 1) n2 F2 ad2 dl2) {v : Int} {J' I2 : Nat → Int → Int} (hL : Ev mL 0 (zargs 0 (zr (some 0) :: (as ++ [zr (some 271)]))) [] h (0, 0) (.inl (some (zi 0)), (h.1, zup I3 271 0 v, R3))) (hM : Ev mX 0 (zargs 0 (zr (some 260) :: as)) [] (h.1, zrw (zup I3 271 0 v) F, R3) (0, 0) (.inl (some (zi v)), (h.1, zrw I2 F2, R3))) (e0 : RfK (zup I3 271 0 v) J') (e : RfS (fsav J' F 0) I2) (ec : I2 260 2 = 0) (ex : I2 261 0 = n2 ∧ I2 261 1 = ad2 ∧ I2 261 2 = dl2) : OSt mL mX as h q := by
  obtain ⟨a1, a2, a3, a4, a5⟩ := r.aft k3 v
  have hc4 := r.1.1.2.2.2.2.1.2
  have hc5 : (if cnt = 4 then 4 else cnt + 1) ≤ 4 := by split <;> omega
  rw [a4] at hM
  have sv := (a2.fr hc4 e0.1).sav hc4 (n := n) (F := F) (ad := ad) (dl := dl) ⟨(e0.2 0 (by decide)).trans a3.1, (e0.2 1 (by decide)).trans a3.2.1, (e0.2 2 (by decide)).trans a3.2.2⟩ 0
  have low : ∀ o, (o < 260 ∨ 271 ≤ o) → zrw I2 F2 o = (zup I3 271 0 v) o := fun o ho => (zrw_o I2 F2 (by omega)).trans ((e.1 o ho).trans ((sv.2 o ho).trans (e0.1.1 o ho)))
  have low2 : ∀ o, o < 260 → zrw I2 F2 o = I3 o := fun o ho => (low o (Or.inl ho)).trans (funext fun x => zup_o _ _ _ _ (by omega))
  refine ⟨_, (h.1, zrw I2 F2, R3), 0, v, hL, hM, ⟨(congrFun (zrw_o I2 F2 (by decide)) 2).trans ec, fun _ => (congrFun (low 271 (Or.inr (by decide))) 0).trans (zup_s _ _ _ _)⟩, ⟨σ2, _, t, L, _, n2, F2, ad2, dl2, ⟨CS.hi (h := (h.1, I3, R3)) k1 low2, TS.hi (h := (h.1, I3, R3)) k1 k2 low2⟩, ⟨(show GdS (q + 1) (n2, F2, ad2, dl2) from hG2).mono (by omega), svS_all hc4 (fun j hj => (r.2.1.2 j hj).mono (by omega)) (r.2.1.1.mono (by omega))⟩, r.2.2.1, a1.fr rfl, sv.1.fr hc5 (e.trans (RfS.zr _ _)), RC.zr ex⟩, fun o ho => (low o (Or.inr (by omega))).trans ((funext fun x => zup_o _ _ _ _ (by omega)).trans (k3 o (by omega)).1), r.2.2.2.1.1, fun o ho => (funext fun x => zup_o _ _ _ _ (by omega)).trans (k3 o (by omega)).1⟩
end OSC
theorem st_addGroup {h : zH} {q : Nat} (hRL : RLn h q) (hq : q ≤ 10800) {a b : Int} : OSt M_L_addGroup M_X7_addGroup [zi a, zi b] h q := by
  obtain ⟨σ, cnt, t, L, S, n, F, ad, dl, r⟩ := hRL
  have r0 := r
  obtain ⟨⟨hS, ar, qq, len, st, sl, dp, hC, hl, ht, hP⟩, ⟨hG9, hGS⟩, hb, hR, hK, hc⟩ := r0
  have hG : Gd q n F ad dl := hG9
  have hG' := hG
  obtain ⟨⟨dep, hw⟩, hN, hA, hd⟩ := hG'
  have hB : 24 * (60 + 99 * (q : Int)) ≤ 1000000000 := by omega
  have hn24 : n ≤ 24 := hC.n24
  have c0 := hc.get
  have h0 : h.1[0]? = some (3, 0) := zk_at hR.1 rfl
  have ho : h.1[271]? = some (9, 1) := zk_at hR.1 rfl
  have cv : ∀ v : Int, (zup h.2.1 271 0 v) 261 0 = n ∧ (zup h.2.1 271 0 v) 261 1 = ad ∧ (zup h.2.1 271 0 v) 261 2 = dl := fun v => by
    have := (r.out v).2.2.2.2.2.get
    exact ⟨this.1, this.2.1, this.2.2.1⟩
  have hT : TS h (oTr (σ 4)) n F ad dl := r.1.2
  have hq8 : q ≤ 80000 := by omega
  have hw9 : IsWhy n F (((0 : Nat) : Int) + 1) a b 0 (wAdd n F a b 0) := Or.inl (⟨rfl, rfl⟩)
  by_cases hw0 : wAdd n F a b 0 = 0
  rotate_left
  · have hr := hw9.rng ⟨len, st, sl, dp, hl, ht⟩
    have kc := sX_addGroup_x h0 (s_change_no hS hT hG hq8 (i := 0) (by decide) hw9 hw0)
    rcases (show wAdd n F a b 0 = 1 ∨ wAdd n F a b 0 = 2 ∨ wAdd n F a b 0 = 3 by omega) with e | e | e
    · have km := s_addGroup_no (h := h) (I := h.2.1) (F := F) hR c0.1 hn24 hw0
      rw [e] at km
      rw [e] at kc
      exact OSt.no r (sL_addGroup_x0 h0 kc) km (RfK.th _ _) (zup_s _ _ _ _) (by decide)
    · have km := s_addGroup_no (h := h) (I := h.2.1) (F := F) hR c0.1 hn24 hw0
      rw [e] at km
      rw [e] at kc
      exact OSt.no r (sL_addGroup_x1 h0 kc) km (RfK.th _ _) (zup_s _ _ _ _) (by decide)
    · have km := s_addGroup_no (h := h) (I := h.2.1) (F := F) hR c0.1 hn24 hw0
      rw [e] at km
      rw [e] at kc
      exact OSt.no r (sL_addGroup_x2 h0 kc) km (RfK.th _ _) (zup_s _ _ _ _) (by decide)
  obtain ⟨p, hzp, hpn, hp0, hr, hdd, hp1, hn9⟩ := wAdd_pos hw0
  have hw90 : IsWhy n F (((0 : Nat) : Int) + 1) a b 0 0 := by
    have hw9' := hw9
    rw [hw0] at hw9'
    exact hw9'
  have hch : IsChg n F ad dl (((0 : Nat) : Int) + 1) a b 0 (n + 1) (fadd n F ad 0 a b 0) (ad + 1) dl ad := Or.inl (⟨rfl, rfl, rfl, rfl, rfl, rfl⟩)
  obtain ⟨σ2, I3, R3, k1, k2, k3, k4⟩ := s_changeC hS hT hG hq8 (i := 0) (by decide) hw90 hch
  have hG2 : Gd (q + 1) (n + 1) (fadd n F ad 0 a b 0) (ad + 1) dl := hG.step hw90 hch
  have k3' : ∀ o, 260 ≤ o → I3 o = h.2.1 o ∧ R3 o = h.2.2 o := fun o ho => k3 o (Or.inr ho)
  obtain ⟨hR3, hK3, hn3, -, hkp3⟩ := r.aft k3' ad
  have ho3 : (h.1, I3, R3).1[271]? = some (9, 1) := ho
  have hfx : ∀ x : Int, x < 3 → fsav (zup I3 271 0 ad) F 0 261 x = (zup I3 271 0 ad) 261 x := fun x hx => fsav_x _ _ _ hkp3 hx
  have km := s_addGroup (h := (h.1, I3, R3)) (I := zup I3 271 0 ad) (F := F) hR3 hn3.1 hn24 hkp3 hn3.2.1 (by omega) hw0
  exact OSt.chg r k1 k2 k3' hG2 (sL_addGroup h0 ho3 (sX_addGroup h0 k4)) km ⟨RfS.rfl' _, fun _ _ => rfl⟩ ((RfS.row _ _ (by decide)).trans (RfS.row _ _ (by decide))) ((zup_o _ _ _ _ (by decide)).trans ((zup_o _ _ _ _ (by decide)).trans (fsav_th _ _))) ⟨(zup_k _ _ _ _ (by decide)).trans ((zup_s _ _ _ _).trans (by omega)), zup_s _ _ _ _, (zup_k _ _ _ _ (by decide)).trans ((zup_k _ _ _ _ (by decide)).trans ((hfx 2 (by decide)).trans hn3.2.2))⟩
theorem st_addTask {h : zH} {q : Nat} (hRL : RLn h q) (hq : q ≤ 10800) {a b c : Int} : OSt M_L_addTask M_X7_addTask [zi a, zi b, zi c] h q := by
  obtain ⟨σ, cnt, t, L, S, n, F, ad, dl, r⟩ := hRL
  have r0 := r
  obtain ⟨⟨hS, ar, qq, len, st, sl, dp, hC, hl, ht, hP⟩, ⟨hG9, hGS⟩, hb, hR, hK, hc⟩ := r0
  have hG : Gd q n F ad dl := hG9
  have hG' := hG
  obtain ⟨⟨dep, hw⟩, hN, hA, hd⟩ := hG'
  have hB : 24 * (60 + 99 * (q : Int)) ≤ 1000000000 := by omega
  have hn24 : n ≤ 24 := hC.n24
  have c0 := hc.get
  have h0 : h.1[0]? = some (3, 0) := zk_at hR.1 rfl
  have ho : h.1[271]? = some (9, 1) := zk_at hR.1 rfl
  have cv : ∀ v : Int, (zup h.2.1 271 0 v) 261 0 = n ∧ (zup h.2.1 271 0 v) 261 1 = ad ∧ (zup h.2.1 271 0 v) 261 2 = dl := fun v => by
    have := (r.out v).2.2.2.2.2.get
    exact ⟨this.1, this.2.1, this.2.2.1⟩
  have hT : TS h (oTr (σ 4)) n F ad dl := r.1.2
  have hq8 : q ≤ 80000 := by omega
  have hw9 : IsWhy n F (((1 : Nat) : Int) + 1) a b c (wAdd n F a b c) := Or.inr (Or.inl (⟨rfl, rfl⟩))
  by_cases hw0 : wAdd n F a b c = 0
  rotate_left
  · have hr := hw9.rng ⟨len, st, sl, dp, hl, ht⟩
    have kc := sX_addTask_x h0 (s_change_no hS hT hG hq8 (i := 1) (by decide) hw9 hw0)
    rcases (show wAdd n F a b c = 1 ∨ wAdd n F a b c = 2 ∨ wAdd n F a b c = 3 by omega) with e | e | e
    · have km := s_addTask_no (h := h) (I := h.2.1) (F := F) hR c0.1 hn24 hw0
      rw [e] at km
      rw [e] at kc
      exact OSt.no r (sL_addTask_x0 h0 kc) km (RfK.th _ _) (zup_s _ _ _ _) (by decide)
    · have km := s_addTask_no (h := h) (I := h.2.1) (F := F) hR c0.1 hn24 hw0
      rw [e] at km
      rw [e] at kc
      exact OSt.no r (sL_addTask_x1 h0 kc) km (RfK.th _ _) (zup_s _ _ _ _) (by decide)
    · have km := s_addTask_no (h := h) (I := h.2.1) (F := F) hR c0.1 hn24 hw0
      rw [e] at km
      rw [e] at kc
      exact OSt.no r (sL_addTask_x2 h0 kc) km (RfK.th _ _) (zup_s _ _ _ _) (by decide)
  obtain ⟨p, hzp, hpn, hp0, hr, hdd, hp1, hn9⟩ := wAdd_pos hw0
  have hw90 : IsWhy n F (((1 : Nat) : Int) + 1) a b c 0 := by
    have hw9' := hw9
    rw [hw0] at hw9'
    exact hw9'
  have hch : IsChg n F ad dl (((1 : Nat) : Int) + 1) a b c (n + 1) (fadd n F ad 1 a b c) (ad + 1) dl ad := Or.inr (Or.inl (⟨rfl, rfl, rfl, rfl, rfl, rfl⟩))
  obtain ⟨σ2, I3, R3, k1, k2, k3, k4⟩ := s_changeC hS hT hG hq8 (i := 1) (by decide) hw90 hch
  have hG2 : Gd (q + 1) (n + 1) (fadd n F ad 1 a b c) (ad + 1) dl := hG.step hw90 hch
  have k3' : ∀ o, 260 ≤ o → I3 o = h.2.1 o ∧ R3 o = h.2.2 o := fun o ho => k3 o (Or.inr ho)
  obtain ⟨hR3, hK3, hn3, -, hkp3⟩ := r.aft k3' ad
  have ho3 : (h.1, I3, R3).1[271]? = some (9, 1) := ho
  have hfx : ∀ x : Int, x < 3 → fsav (zup I3 271 0 ad) F 0 261 x = (zup I3 271 0 ad) 261 x := fun x hx => fsav_x _ _ _ hkp3 hx
  have km := s_addTask (h := (h.1, I3, R3)) (I := zup I3 271 0 ad) (F := F) hR3 hn3.1 hn24 hkp3 hn3.2.1 (by omega) hw0
  exact OSt.chg r k1 k2 k3' hG2 (sL_addTask h0 ho3 (sX_addTask h0 k4)) km ⟨RfS.rfl' _, fun _ _ => rfl⟩ ((RfS.row _ _ (by decide)).trans (RfS.row _ _ (by decide))) ((zup_o _ _ _ _ (by decide)).trans ((zup_o _ _ _ _ (by decide)).trans (fsav_th _ _))) ⟨(zup_k _ _ _ _ (by decide)).trans ((zup_s _ _ _ _).trans (by omega)), zup_s _ _ _ _, (zup_k _ _ _ _ (by decide)).trans ((zup_k _ _ _ _ (by decide)).trans ((hfx 2 (by decide)).trans hn3.2.2))⟩
theorem st_move {h : zH} {q : Nat} (hRL : RLn h q) (hq : q ≤ 10800) {a b c : Int} : OSt M_L_move M_X7_move [zi a, zi b, zi c] h q := by
  obtain ⟨σ, cnt, t, L, S, n, F, ad, dl, r⟩ := hRL
  have r0 := r
  obtain ⟨⟨hS, ar, qq, len, st, sl, dp, hC, hl, ht, hP⟩, ⟨hG9, hGS⟩, hb, hR, hK, hc⟩ := r0
  have hG : Gd q n F ad dl := hG9
  have hG' := hG
  obtain ⟨⟨dep, hw⟩, hN, hA, hd⟩ := hG'
  have hB : 24 * (60 + 99 * (q : Int)) ≤ 1000000000 := by omega
  have hn24 : n ≤ 24 := hC.n24
  have c0 := hc.get
  have h0 : h.1[0]? = some (3, 0) := zk_at hR.1 rfl
  have ho : h.1[271]? = some (9, 1) := zk_at hR.1 rfl
  have cv : ∀ v : Int, (zup h.2.1 271 0 v) 261 0 = n ∧ (zup h.2.1 271 0 v) 261 1 = ad ∧ (zup h.2.1 271 0 v) 261 2 = dl := fun v => by
    have := (r.out v).2.2.2.2.2.get
    exact ⟨this.1, this.2.1, this.2.2.1⟩
  have hT : TS h (oTr (σ 4)) n F ad dl := r.1.2
  have hq8 : q ≤ 80000 := by omega
  obtain ⟨w, hwm, hno, -⟩ := s_move (h := h) (I := h.2.1) (F := F) hR c0.1 hn24 (by rw [hK.1]; have := hS.2.2.2.2.1.2; omega) hw hw.pl (x := a) (gr := b) (r := c)
  have hw9 : IsWhy n F (((5 : Nat) : Int) + 1) a b c w := Or.inr (Or.inr (Or.inr (Or.inr (Or.inr (Or.inl (⟨rfl, hwm⟩))))))
  by_cases hw0 : w = 0
  rotate_left
  · have hr := hw9.rng ⟨len, st, sl, dp, hl, ht⟩
    have kc := sX_move_x h0 (s_change_no hS hT hG hq8 (i := 5) (by decide) hw9 hw0)
    rcases (show w = 1 ∨ w = 2 ∨ w = 3 by omega) with e | e | e
    · have km := hno hw0
      rw [e] at km
      rw [e] at kc
      exact OSt.no r (sL_move_x0 h0 kc) km (RfK.th _ _) (zup_s _ _ _ _) (by decide)
    · have km := hno hw0
      rw [e] at km
      rw [e] at kc
      exact OSt.no r (sL_move_x1 h0 kc) km (RfK.th _ _) (zup_s _ _ _ _) (by decide)
    · have km := hno hw0
      rw [e] at km
      rw [e] at kc
      exact OSt.no r (sL_move_x2 h0 kc) km (RfK.th _ _) (zup_s _ _ _ _) (by decide)
  have hwm0 : IsWMove n F a b c 0 := hw0 ▸ hwm
  obtain ⟨k, p, ⟨e1, kn, kf, kx⟩, -, -, -, -⟩ := IsWMove_pos hwm0
  have hw90 : IsWhy n F (((5 : Nat) : Int) + 1) a b c 0 := by
    have hw9' := hw9
    rw [hw0] at hw9'
    exact hw9'
  have hch : IsChg n F ad dl (((5 : Nat) : Int) + 1) a b c n (fmove n F k b c) ad dl (mcc n (fleave n F k) b c) := Or.inr (Or.inr (Or.inr (Or.inr (Or.inr (Or.inl (⟨rfl, rfl, rfl, rfl, k, e1, rfl, rfl⟩))))))
  obtain ⟨σ2, I3, R3, k1, k2, k3, k4⟩ := s_changeC hS hT hG hq8 (i := 5) (by decide) hw90 hch
  have hG2 : Gd (q + 1) n (fmove n F k b c) ad dl := hG.step hw90 hch
  have k3' : ∀ o, 260 ≤ o → I3 o = h.2.1 o ∧ R3 o = h.2.2 o := fun o ho => k3 o (Or.inr ho)
  obtain ⟨hR3, hK3, hn3, -, hkp3⟩ := r.aft k3' (mcc n (fleave n F k) b c)
  have ho3 : (h.1, I3, R3).1[271]? = some (9, 1) := ho
  have hfx : ∀ x : Int, x < 3 → fsav (zup I3 271 0 (mcc n (fleave n F k) b c)) F 0 261 x = (zup I3 271 0 (mcc n (fleave n F k) b c)) 261 x := fun x hx => fsav_x _ _ _ hkp3 hx
  obtain ⟨w2, hwm2, -, hyes⟩ := s_move (h := (h.1, I3, R3)) (I := zup I3 271 0 (mcc n (fleave n F k) b c)) (F := F) hR3 hn3.1 hn24 hkp3 hw hw.pl (x := a) (gr := b) (r := c)
  have km := hyes (hwm2.uniq hwm0) k e1
  exact OSt.chg r k1 k2 k3' hG2 (sL_move h0 ho3 (sX_move h0 k4)) km ⟨RfS.rfl' _, fun _ _ => rfl⟩ (RfS.rfl' _) (fsav_th _ _) ⟨(hfx 0 (by decide)).trans hn3.1, (hfx 1 (by decide)).trans hn3.2.1, (hfx 2 (by decide)).trans hn3.2.2⟩
theorem st_setDuration {h : zH} {q : Nat} (hRL : RLn h q) (hq : q ≤ 10800) {a b : Int} : OSt M_L_setDuration M_X7_setDuration [zi a, zi b] h q := by
  obtain ⟨σ, cnt, t, L, S, n, F, ad, dl, r⟩ := hRL
  have r0 := r
  obtain ⟨⟨hS, ar, qq, len, st, sl, dp, hC, hl, ht, hP⟩, ⟨hG9, hGS⟩, hb, hR, hK, hc⟩ := r0
  have hG : Gd q n F ad dl := hG9
  have hG' := hG
  obtain ⟨⟨dep, hw⟩, hN, hA, hd⟩ := hG'
  have hB : 24 * (60 + 99 * (q : Int)) ≤ 1000000000 := by omega
  have hn24 : n ≤ 24 := hC.n24
  have c0 := hc.get
  have h0 : h.1[0]? = some (3, 0) := zk_at hR.1 rfl
  have ho : h.1[271]? = some (9, 1) := zk_at hR.1 rfl
  have cv : ∀ v : Int, (zup h.2.1 271 0 v) 261 0 = n ∧ (zup h.2.1 271 0 v) 261 1 = ad ∧ (zup h.2.1 271 0 v) 261 2 = dl := fun v => by
    have := (r.out v).2.2.2.2.2.get
    exact ⟨this.1, this.2.1, this.2.2.1⟩
  have hT : TS h (oTr (σ 4)) n F ad dl := r.1.2
  have hq8 : q ≤ 80000 := by omega
  have hw9 : IsWhy n F (((2 : Nat) : Int) + 1) a b 0 (wTask n F a (if 0 ≤ b ∧ b ≤ 60 then 1 else 0)) := Or.inr (Or.inr (Or.inl (⟨rfl, rfl⟩)))
  by_cases hw0 : wTask n F a (if 0 ≤ b ∧ b ≤ 60 then 1 else 0) = 0
  rotate_left
  · have hr := hw9.rng ⟨len, st, sl, dp, hl, ht⟩
    have kc := sX_setDuration_x h0 (s_change_no hS hT hG hq8 (i := 2) (by decide) hw9 hw0)
    rcases (show wTask n F a (if 0 ≤ b ∧ b ≤ 60 then 1 else 0) = 1 ∨ wTask n F a (if 0 ≤ b ∧ b ≤ 60 then 1 else 0) = 2 ∨ wTask n F a (if 0 ≤ b ∧ b ≤ 60 then 1 else 0) = 3 by omega) with e | e | e
    · have km := s_setDuration_no (h := h) (I := h.2.1) (F := F) hR c0.1 hn24 hw0
      rw [e] at km
      rw [e] at kc
      exact OSt.no r (sL_setDuration_x0 h0 kc) km (RfK.th _ _) (zup_s _ _ _ _) (by decide)
    · have km := s_setDuration_no (h := h) (I := h.2.1) (F := F) hR c0.1 hn24 hw0
      rw [e] at km
      rw [e] at kc
      exact OSt.no r (sL_setDuration_x1 h0 kc) km (RfK.th _ _) (zup_s _ _ _ _) (by decide)
    · have km := s_setDuration_no (h := h) (I := h.2.1) (F := F) hR c0.1 hn24 hw0
      rw [e] at km
      rw [e] at kc
      exact OSt.no r (sL_setDuration_x2 h0 kc) km (RfK.th _ _) (zup_s _ _ _ _) (by decide)
  obtain ⟨k, hk, ej, ht9, hb9⟩ := wTask_pos hw0
  have hd9 : 0 ≤ b ∧ b ≤ 60 := Classical.byContradiction fun g => hb9 (if_neg g)
  have b9 := hw.2.2.2.1 k hk
  have hW2 := hw.lst hk ht9 (Int.le_refl _) hd9
  obtain ⟨len2, st2, sl2, dp2, hl2, ht2⟩ := plan_ex hW2
  have hw90 : IsWhy n F (((2 : Nat) : Int) + 1) a b 0 0 := by
    have hw9' := hw9
    rw [hw0] at hw9'
    exact hw9'
  have hch : IsChg n F ad dl (((2 : Nat) : Int) + 1) a b 0 n (flast F k b) ad dl (len2 0) := Or.inr (Or.inr (Or.inl (⟨rfl, rfl, rfl, rfl, k, ej, rfl, len2, st2, sl2, dp2, hl2, ht2, rfl⟩)))
  obtain ⟨σ2, I3, R3, k1, k2, k3, k4⟩ := s_changeC hS hT hG hq8 (i := 2) (by decide) hw90 hch
  have hG2 : Gd (q + 1) n (flast F k b) ad dl := hG.step hw90 hch
  have k3' : ∀ o, 260 ≤ o → I3 o = h.2.1 o ∧ R3 o = h.2.2 o := fun o ho => k3 o (Or.inr ho)
  obtain ⟨hR3, hK3, hn3, -, hkp3⟩ := r.aft k3' (len2 0)
  have ho3 : (h.1, I3, R3).1[271]? = some (9, 1) := ho
  have hfx : ∀ x : Int, x < 3 → fsav (zup I3 271 0 (len2 0)) F 0 261 x = (zup I3 271 0 (len2 0)) 261 x := fun x hx => fsav_x _ _ _ hkp3 hx
  obtain ⟨I2, e, km⟩ := s_setDuration (h := (h.1, I3, R3)) (I := zup I3 271 0 (len2 0)) (F := F) hR3 hn3.1 hn24 hkp3 ej hW2 hB hl2 ht2 ⟨b9.2.1, by have := b9.2.2.1; omega⟩ hw0
  have ek := e.keep.rk
  exact OSt.chg r k1 k2 k3' hG2 (sL_setDuration h0 ho3 (sX_setDuration h0 k4)) km ⟨RfS.rfl' _, fun _ _ => rfl⟩ ek.1 ((congrFun (e.keep.1 260 (by decide)) 2).trans (fsav_th _ _)) ⟨(ek.2 0 (by decide)).trans ((hfx 0 (by decide)).trans hn3.1), (ek.2 1 (by decide)).trans ((hfx 1 (by decide)).trans hn3.2.1), (ek.2 2 (by decide)).trans ((hfx 2 (by decide)).trans hn3.2.2)⟩
theorem st_borrow {h : zH} {q : Nat} (hRL : RLn h q) (hq : q ≤ 10800) {a b : Int} : OSt M_L_borrow M_X7_borrow [zi a, zi b] h q := by
  obtain ⟨σ, cnt, t, L, S, n, F, ad, dl, r⟩ := hRL
  have r0 := r
  obtain ⟨⟨hS, ar, qq, len, st, sl, dp, hC, hl, ht, hP⟩, ⟨hG9, hGS⟩, hb, hR, hK, hc⟩ := r0
  have hG : Gd q n F ad dl := hG9
  have hG' := hG
  obtain ⟨⟨dep, hw⟩, hN, hA, hd⟩ := hG'
  have hB : 24 * (60 + 99 * (q : Int)) ≤ 1000000000 := by omega
  have hn24 : n ≤ 24 := hC.n24
  have c0 := hc.get
  have h0 : h.1[0]? = some (3, 0) := zk_at hR.1 rfl
  have ho : h.1[271]? = some (9, 1) := zk_at hR.1 rfl
  have cv : ∀ v : Int, (zup h.2.1 271 0 v) 261 0 = n ∧ (zup h.2.1 271 0 v) 261 1 = ad ∧ (zup h.2.1 271 0 v) 261 2 = dl := fun v => by
    have := (r.out v).2.2.2.2.2.get
    exact ⟨this.1, this.2.1, this.2.2.1⟩
  have hT : TS h (oTr (σ 4)) n F ad dl := r.1.2
  have hq8 : q ≤ 80000 := by omega
  have hw9 : IsWhy n F (((3 : Nat) : Int) + 1) a b 0 (wBor n F sl a b) := Or.inr (Or.inr (Or.inr (Or.inl (⟨rfl, fun len8 st8 sl8 dp8 hl8 ht8 => wBor_congr (fun k hk => (IsTm.uniq hw (IsLen.uniq hw hl hl8) ht ht8 k hk).2.1) a b⟩))))
  by_cases hw0 : wBor n F sl a b = 0
  rotate_left
  · have hr := hw9.rng ⟨len, st, sl, dp, hl, ht⟩
    obtain ⟨I2, e0, km, -⟩ := s_borrow (h := h) (I := h.2.1) (F := F) hR c0.1 hn24 (by rw [hK.1]; have := hS.2.2.2.2.1.2; omega) hw hB hl ht (x := a) (a := b) (k := 0) (fun g => absurd g hw0) (fun g => absurd g hw0)
    have ek : RfK h.2.1 I2 := by
      rcases e0 with e0 | e0
      · rw [e0]; exact ⟨RfS.rfl' _, fun _ _ => rfl⟩
      · exact e0.keep.rk
    have km := km hw0
    have kc := sX_borrow_x h0 (s_change_no hS hT hG hq8 (i := 3) (by decide) hw9 hw0)
    rcases (show wBor n F sl a b = 1 ∨ wBor n F sl a b = 2 ∨ wBor n F sl a b = 3 by omega) with e | e | e
    · rw [e] at km
      rw [e] at kc
      exact OSt.no r (sL_borrow_x0 h0 kc) km (ek.trans (RfK.th _ _)) (zup_s _ _ _ _) (by decide)
    · rw [e] at km
      rw [e] at kc
      exact OSt.no r (sL_borrow_x1 h0 kc) km (ek.trans (RfK.th _ _)) (zup_s _ _ _ _) (by decide)
    · rw [e] at km
      rw [e] at kc
      exact OSt.no r (sL_borrow_x2 h0 kc) km (ek.trans (RfK.th _ _)) (zup_s _ _ _ _) (by decide)
  obtain ⟨k, hk, ej, htk, ha9, hs9⟩ := wBor_pos hw0
  have b9 := hw.2.2.2.1 k hk
  have hw90 : IsWhy n F (((3 : Nat) : Int) + 1) a b 0 0 := by
    have hw9' := hw9
    rw [hw0] at hw9'
    exact hw9'
  have hch : IsChg n F ad dl (((3 : Nat) : Int) + 1) a b 0 n (fup F k 6 (F k 6 + b)) ad dl (F k 6 + b) := Or.inr (Or.inr (Or.inr (Or.inl (⟨rfl, rfl, rfl, rfl, k, ej, rfl, rfl⟩))))
  obtain ⟨σ2, I3, R3, k1, k2, k3, k4⟩ := s_changeC hS hT hG hq8 (i := 3) (by decide) hw90 hch
  have hG2 : Gd (q + 1) n (fup F k 6 (F k 6 + b)) ad dl := hG.step hw90 hch
  have k3' : ∀ o, 260 ≤ o → I3 o = h.2.1 o ∧ R3 o = h.2.2 o := fun o ho => k3 o (Or.inr ho)
  obtain ⟨hR3, hK3, hn3, -, hkp3⟩ := r.aft k3' (F k 6 + b)
  have ho3 : (h.1, I3, R3).1[271]? = some (9, 1) := ho
  have hfx : ∀ x : Int, x < 3 → fsav (zup I3 271 0 (F k 6 + b)) F 0 261 x = (zup I3 271 0 (F k 6 + b)) 261 x := fun x hx => fsav_x _ _ _ hkp3 hx
  obtain ⟨I2, e0, -, km⟩ := s_borrow (h := (h.1, I3, R3)) (I := zup I3 271 0 (F k 6 + b)) (F := F) hR3 hn3.1 hn24 hkp3 hw hB hl ht (x := a) (a := b) (fun _ => ej) (fun _ => by have := b9.2.2.1; omega)
  have km := km hw0
  have ek : RfK (zup I3 271 0 (F k 6 + b)) I2 := by
    rcases e0 with e0 | e0
    · rw [e0]; exact ⟨RfS.rfl' _, fun _ _ => rfl⟩
    · exact e0.keep.rk
  have hkp4 : 0 ≤ I2 260 1 ∧ I2 260 1 ≤ 4 := by rw [ek.1.2.1.1]; exact hkp3
  have hfy : ∀ x : Int, x < 3 → fsav I2 F 0 261 x = (zup I3 271 0 (F k 6 + b)) 261 x := fun x hx => (fsav_x I2 F 0 hkp4 hx).trans (ek.2 x hx)
  exact OSt.chg r k1 k2 k3' hG2 (sL_borrow h0 ho3 (sX_borrow h0 k4)) km ek (RfS.rfl' _) (fsav_th _ _) ⟨(hfy 0 (by decide)).trans hn3.1, (hfy 1 (by decide)).trans hn3.2.1, (hfy 2 (by decide)).trans hn3.2.2⟩
theorem st_giveBack {h : zH} {q : Nat} (hRL : RLn h q) (hq : q ≤ 10800) {a b : Int} : OSt M_L_giveBack M_X7_giveBack [zi a, zi b] h q := by
  obtain ⟨σ, cnt, t, L, S, n, F, ad, dl, r⟩ := hRL
  have r0 := r
  obtain ⟨⟨hS, ar, qq, len, st, sl, dp, hC, hl, ht, hP⟩, ⟨hG9, hGS⟩, hb, hR, hK, hc⟩ := r0
  have hG : Gd q n F ad dl := hG9
  have hG' := hG
  obtain ⟨⟨dep, hw⟩, hN, hA, hd⟩ := hG'
  have hB : 24 * (60 + 99 * (q : Int)) ≤ 1000000000 := by omega
  have hn24 : n ≤ 24 := hC.n24
  have c0 := hc.get
  have h0 : h.1[0]? = some (3, 0) := zk_at hR.1 rfl
  have ho : h.1[271]? = some (9, 1) := zk_at hR.1 rfl
  have cv : ∀ v : Int, (zup h.2.1 271 0 v) 261 0 = n ∧ (zup h.2.1 271 0 v) 261 1 = ad ∧ (zup h.2.1 271 0 v) 261 2 = dl := fun v => by
    have := (r.out v).2.2.2.2.2.get
    exact ⟨this.1, this.2.1, this.2.2.1⟩
  have hT : TS h (oTr (σ 4)) n F ad dl := r.1.2
  have hq8 : q ≤ 80000 := by omega
  have hw9 : IsWhy n F (((4 : Nat) : Int) + 1) a b 0 (wBck n F a b) := Or.inr (Or.inr (Or.inr (Or.inr (Or.inl (⟨rfl, rfl⟩)))))
  by_cases hw0 : wBck n F a b = 0
  rotate_left
  · have hr := hw9.rng ⟨len, st, sl, dp, hl, ht⟩
    have kc := sX_giveBack_x h0 (s_change_no hS hT hG hq8 (i := 4) (by decide) hw9 hw0)
    rcases (show wBck n F a b = 1 ∨ wBck n F a b = 2 ∨ wBck n F a b = 3 by omega) with e | e | e
    · have km := s_giveBack_no (h := h) (I := h.2.1) (F := F) hR c0.1 hn24 hw0
      rw [e] at km
      rw [e] at kc
      exact OSt.no r (sL_giveBack_x0 h0 kc) km (RfK.th _ _) (zup_s _ _ _ _) (by decide)
    · have km := s_giveBack_no (h := h) (I := h.2.1) (F := F) hR c0.1 hn24 hw0
      rw [e] at km
      rw [e] at kc
      exact OSt.no r (sL_giveBack_x1 h0 kc) km (RfK.th _ _) (zup_s _ _ _ _) (by decide)
    · have km := s_giveBack_no (h := h) (I := h.2.1) (F := F) hR c0.1 hn24 hw0
      rw [e] at km
      rw [e] at kc
      exact OSt.no r (sL_giveBack_x2 h0 kc) km (RfK.th _ _) (zup_s _ _ _ _) (by decide)
  obtain ⟨k, hk, ej, htk, ha9, hs9⟩ := wBck_pos hw0
  have b9 := hw.2.2.2.1 k hk
  have hw90 : IsWhy n F (((4 : Nat) : Int) + 1) a b 0 0 := by
    have hw9' := hw9
    rw [hw0] at hw9'
    exact hw9'
  have hch : IsChg n F ad dl (((4 : Nat) : Int) + 1) a b 0 n (fup F k 6 (F k 6 + -b)) ad dl (F k 6 + -b) := Or.inr (Or.inr (Or.inr (Or.inr (Or.inl (⟨rfl, rfl, rfl, rfl, k, ej, rfl, rfl⟩)))))
  obtain ⟨σ2, I3, R3, k1, k2, k3, k4⟩ := s_changeC hS hT hG hq8 (i := 4) (by decide) hw90 hch
  have hG2 : Gd (q + 1) n (fup F k 6 (F k 6 + -b)) ad dl := hG.step hw90 hch
  have k3' : ∀ o, 260 ≤ o → I3 o = h.2.1 o ∧ R3 o = h.2.2 o := fun o ho => k3 o (Or.inr ho)
  obtain ⟨hR3, hK3, hn3, -, hkp3⟩ := r.aft k3' (F k 6 + -b)
  have ho3 : (h.1, I3, R3).1[271]? = some (9, 1) := ho
  have hfx : ∀ x : Int, x < 3 → fsav (zup I3 271 0 (F k 6 + -b)) F 0 261 x = (zup I3 271 0 (F k 6 + -b)) 261 x := fun x hx => fsav_x _ _ _ hkp3 hx
  have km := s_giveBack (h := (h.1, I3, R3)) (I := zup I3 271 0 (F k 6 + -b)) (F := F) hR3 hn3.1 hn24 hkp3 ej (by omega) (by have := b9.2.2.1; omega) hw0
  exact OSt.chg r k1 k2 k3' hG2 (sL_giveBack h0 ho3 (sX_giveBack h0 k4)) km ⟨RfS.rfl' _, fun _ _ => rfl⟩ (RfS.rfl' _) (fsav_th _ _) ⟨(hfx 0 (by decide)).trans hn3.1, (hfx 1 (by decide)).trans hn3.2.1, (hfx 2 (by decide)).trans hn3.2.2⟩
theorem st_setDeadline {h : zH} {q : Nat} (hRL : RLn h q) (hq : q ≤ 10800) {a : Int} : OSt M_L_setDeadline M_X7_setDeadline [zi a] h q := by
  obtain ⟨σ, cnt, t, L, S, n, F, ad, dl, r⟩ := hRL
  have r0 := r
  obtain ⟨⟨hS, ar, qq, len, st, sl, dp, hC, hl, ht, hP⟩, ⟨hG9, hGS⟩, hb, hR, hK, hc⟩ := r0
  have hG : Gd q n F ad dl := hG9
  have hG' := hG
  obtain ⟨⟨dep, hw⟩, hN, hA, hd⟩ := hG'
  have hB : 24 * (60 + 99 * (q : Int)) ≤ 1000000000 := by omega
  have hn24 : n ≤ 24 := hC.n24
  have c0 := hc.get
  have h0 : h.1[0]? = some (3, 0) := zk_at hR.1 rfl
  have ho : h.1[271]? = some (9, 1) := zk_at hR.1 rfl
  have cv : ∀ v : Int, (zup h.2.1 271 0 v) 261 0 = n ∧ (zup h.2.1 271 0 v) 261 1 = ad ∧ (zup h.2.1 271 0 v) 261 2 = dl := fun v => by
    have := (r.out v).2.2.2.2.2.get
    exact ⟨this.1, this.2.1, this.2.2.1⟩
  have hT : TS h (oTr (σ 4)) n F ad dl := r.1.2
  have hq8 : q ≤ 80000 := by omega
  have hw9 : IsWhy n F (((7 : Nat) : Int) + 1) a 0 0 (wUnt a) := Or.inr (Or.inr (Or.inr (Or.inr (Or.inr (Or.inr (Or.inr (⟨rfl, rfl⟩)))))))
  by_cases hd9 : 0 ≤ a ∧ a ≤ 999
  rotate_left
  · have e : wUnt a = 2 := if_neg hd9
    have kc := sX_setDeadline_x h0 (s_change_no hS hT hG hq8 (i := 7) (by decide) hw9 (by rw [e]; decide))
    rw [e] at kc
    have km := s_setDeadline_no (h := h) (I := h.2.1) (F := F) hR c0.1 hn24 hd9
    exact OSt.no r (sL_setDeadline_x1 h0 kc) km (RfK.th _ _) (zup_s _ _ _ _) (by decide)
  have hw0 : wUnt a = 0 := if_pos hd9
  have hw90 : IsWhy n F (((7 : Nat) : Int) + 1) a 0 0 0 := by
    have hw9' := hw9
    rw [hw0] at hw9'
    exact hw9'
  have hch : IsChg n F ad dl (((7 : Nat) : Int) + 1) a 0 0 n F ad a (mlate (len 0) a) := Or.inr (Or.inr (Or.inr (Or.inr (Or.inr (Or.inr (Or.inr (⟨rfl, rfl, rfl, rfl, rfl, len, st, sl, dp, hl, ht, rfl⟩)))))))
  obtain ⟨σ2, I3, R3, k1, k2, k3, k4⟩ := s_changeC hS hT hG hq8 (i := 7) (by decide) hw90 hch
  have hG2 : Gd (q + 1) n F ad a := hG.step hw90 hch
  have k3' : ∀ o, 260 ≤ o → I3 o = h.2.1 o ∧ R3 o = h.2.2 o := fun o ho => k3 o (Or.inr ho)
  obtain ⟨hR3, hK3, hn3, -, hkp3⟩ := r.aft k3' (mlate (len 0) a)
  have ho3 : (h.1, I3, R3).1[271]? = some (9, 1) := ho
  have hfx : ∀ x : Int, x < 3 → fsav (zup I3 271 0 (mlate (len 0) a)) F 0 261 x = (zup I3 271 0 (mlate (len 0) a)) 261 x := fun x hx => fsav_x _ _ _ hkp3 hx
  obtain ⟨I2, e, km⟩ := s_setDeadline (h := (h.1, I3, R3)) (I := zup I3 271 0 (mlate (len 0) a)) (F := F) hR3 hn3.1 hn24 hkp3 hw hB hl ht hd9
  have ek := e.keep.rk
  exact OSt.chg r k1 k2 k3' hG2 (sL_setDeadline h0 ho3 (sX_setDeadline h0 k4)) km ⟨RfS.rfl' _, fun _ _ => rfl⟩ ((RfS.row _ _ (by decide)).trans ek.1) ((congrFun (e.keep.1 260 (by decide)) 2).trans ((zup_o _ _ _ _ (by decide)).trans (fsav_th _ _))) ⟨(ek.2 0 (by decide)).trans ((zup_k _ _ _ _ (by decide)).trans ((hfx 0 (by decide)).trans hn3.1)), (ek.2 1 (by decide)).trans ((zup_k _ _ _ _ (by decide)).trans ((hfx 1 (by decide)).trans hn3.2.1)), (ek.2 2 (by decide)).trans (zup_s _ _ _ _)⟩
