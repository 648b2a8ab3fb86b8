/-! ===== the step that removes ===== -/
def Agr (n : Nat) (F F' : zF) : Prop := ∀ k : Nat, k < n → ∀ w : Int, 0 ≤ w → w < 7 → F' k w = F k w
theorem Agr.rl {n : Nat} {F F' : zF} (e : Agr n F F') (len : Int → Int) (g r : Int) : mrl n F' len g r = mrl n F len g r := zsum_congr fun k hk => by
  rw [e k hk 2 (by decide) (by decide), e k hk 3 (by decide) (by decide)]
theorem Agr.ah {n : Nat} {F F' : zF} (e : Agr n F F') (len : Int → Int) {k : Nat} (hk : k < n) : mah n F' len k = mah n F len k := zsum_congr fun o ho => by
  rw [e o ho 2 (by decide) (by decide), e o ho 3 (by decide) (by decide), e o ho 4 (by decide) (by decide), e k hk 2 (by decide) (by decide), e k hk 3 (by decide) (by decide), e k hk 4 (by decide) (by decide)]
theorem Agr.ln {n : Nat} {F F' : zF} (e : Agr n F F') (len : Int → Int) {k : Nat} (hk : k < n) : mln n F' len k = mln n F len k := by
  unfold mln mlg
  rw [e k hk 1 (by decide) (by decide), e k hk 5 (by decide) (by decide), e k hk 6 (by decide) (by decide), e k hk 0 (by decide) (by decide), e.rl, e.rl, e.rl, e.rl]
theorem Agr.zp {n : Nat} {F F' : zF} (e : Agr n F F') (x : Int) : zpos n F' x = zpos n F x := zfnd_congr fun k hk => e k hk 0 (by decide) (by decide)
theorem Agr.len {n : Nat} {F F' : zF} (e : Agr n F F') {len : Int → Int} (h : IsLen n F len) : IsLen n F' len := fun k hk => (h k hk).trans (e.ln len hk).symm
theorem Agr.tm {n : Nat} {F F' : zF} (e : Agr n F F') {len st sl dp : Int → Int} (h : IsTm n F len st sl dp) : IsTm n F' len st sl dp := ⟨h.1, h.2.1, h.2.2.1, fun k p h1 hk hp he => by
  rw [e k hk 2 (by decide) (by decide), e p hp 0 (by decide) (by decide)] at he
  rw [e.ah len hk, e k hk 2 (by decide) (by decide), e k hk 3 (by decide) (by decide), e.rl]
  exact h.2.2.2 k p h1 hk hp he⟩
theorem Agr.ps {n : Nat} {F F' : zF} (e : Agr n F F') (len : Int → Int) {k : Nat} (hk : k < n) : prs n F' len k = prs n F len k := by
  unfold prs
  rw [e k hk 2 (by decide) (by decide), e k hk 3 (by decide) (by decide), e.rl, e.zp]
theorem Agr.ct {n : Nat} {F F' : zF} (e : Agr n F F') {h : zH} {T : Nat} {ad dl : Int} {ar q : Nat → Nat} (hC : CT h T n F ad dl ar q) : CT h T n F' ad dl ar q := by
  refine ⟨hC.1, hC.2.1, hC.2.2.1, fun i hi => ?_, hC.2.2.2.2.1, hC.2.2.2.2.2.cong hC.2.2.1.2.1 (fun k hk => ⟨e k hk 2 (by decide) (by decide), e k hk 3 (by decide) (by decide), e k hk 4 (by decide) (by decide)⟩)⟩
  have hq := hC.qlt hi
  exact ⟨(hC.c0 hi).trans (e _ hq 0 (by decide) (by decide)).symm, (hC.c1 hi).trans (e _ hq 1 (by decide) (by decide)).symm, (hC.c2 hi).trans (e _ hq 2 (by decide) (by decide)).symm, (hC.c3 hi).trans (e _ hq 3 (by decide) (by decide)).symm, (hC.c4 hi).trans (e _ hq 5 (by decide) (by decide)).symm, (hC.c5 hi).trans (e _ hq 6 (by decide) (by decide)).symm⟩
theorem Agr.ts {n : Nat} {F F' : zF} (e : Agr n F F') {h : zH} {T : Nat} {ad dl : Int} (hT : TS h T n F ad dl) : TS h T n F' ad dl := by
  obtain ⟨ar, q, len, st, sl, dp, hC, hl, ht, hP⟩ := hT
  refine ⟨ar, q, len, st, sl, dp, e.ct hC, e.len hl, e.tm ht, fun i hi => ?_⟩
  have hq := hC.qlt hi
  obtain ⟨⟨p0, p1, p2, p3, p4, p5⟩, r, u, w⟩ := hP i hi
  refine ⟨⟨p0.trans (e _ hq 4 (by decide) (by decide)).symm, p1, p2, p3, p4.trans (e.ps len hq).symm, p5⟩, fun r' h0 h4 => ?_, u, fun j hj he => w j hj ?_⟩
  · rw [e _ hq 0 (by decide) (by decide), e.rl]
    exact r r' h0 h4
  · rw [e _ hq 2 (by decide) (by decide), e _ (hC.qlt hj) 0 (by decide) (by decide)] at he
    exact he
theorem IsRem.agr {n : Nat} {F : zF} {k : Nat} {G G' : Int → Int} {n2 n2' : Nat} {F2 F2' : zF} (h : IsRem n F k G n2 F2) (h' : IsRem n F k G' n2' F2') : n2 = n2' ∧ gcnt G n = gcnt G' n ∧ Agr n2 F2 F2' := by
  have hg : ∀ j : Nat, j < n → G j = G' j := fun j hj => by
    rcases h.1 j hj with ⟨x1, x2⟩ | ⟨x1, x2⟩ <;> rcases h'.1 j hj with ⟨y1, y2⟩ | ⟨y1, y2⟩
    · omega
    · exact absurd x2 y2
    · exact absurd y2 x2
    · omega
  have hc : ∀ m : Nat, m ≤ n → gcnt G m = gcnt G' m := fun m hm => gcnt_congr m (fun j hj => hg j (by omega))
  have h2 := h.2.1
  have h2' := h'.2.1
  have hcn := hc n (Nat.le_refl n)
  refine ⟨by omega, hcn, fun m hm w h0 h7 => ?_⟩
  obtain ⟨sel, hs⟩ := gsel G n
  have a := hs m (by omega)
  have b1 := h.2.2 (sel m) a.1 a.2.1 w h0 h7
  have b2 := h'.2.2 (sel m) a.1 (by rw [← hg _ a.1]; exact a.2.1) w h0 h7
  rw [← hc (sel m) (by omega)] at b2
  rw [a.2.2] at b1 b2
  exact b2.trans b1.symm
theorem st_remove {h : zH} {q : Nat} (hRL : RLn h q) (hq : q ≤ 10800) {a : Int} : OSt M_L_remove M_X7_remove [zi a] h q := by
  obtain ⟨σ, cnt, t, L, S, n, F, ad, dl, r⟩ := hRL
  have r0 := r
  obtain ⟨⟨hS, ar, qq, len, st, sl, dp, hC, hl, ht, hP⟩, ⟨hG9, hGS⟩, hb, hR, hK, hc⟩ := r0
  have hG : Gd q n F ad dl := hG9
  have hG' := hG
  obtain ⟨⟨dep, hw⟩, hN, hA, hd⟩ := hG'
  have hB : 24 * (60 + 99 * (q : Int)) ≤ 1000000000 := by omega
  have hn24 : n ≤ 24 := hC.n24
  have c0 := hc.get
  have h0 : h.1[0]? = some (3, 0) := zk_at hR.1 rfl
  have ho : h.1[271]? = some (9, 1) := zk_at hR.1 rfl
  have cv : ∀ v : Int, (zup h.2.1 271 0 v) 261 0 = n ∧ (zup h.2.1 271 0 v) 261 1 = ad ∧ (zup h.2.1 271 0 v) 261 2 = dl := fun v => by
    have := (r.out v).2.2.2.2.2.get
    exact ⟨this.1, this.2.1, this.2.2.1⟩
  have hT : TS h (oTr (σ 4)) n F ad dl := r.1.2
  have hq8 : q ≤ 80000 := by omega
  have hw9 : IsWhy n F (((6 : Nat) : Int) + 1) a 0 0 (wRem n F a) := Or.inr (Or.inr (Or.inr (Or.inr (Or.inr (Or.inr (Or.inl (⟨rfl, rfl⟩)))))))
  by_cases hw0 : wRem n F a = 0
  rotate_left
  · have hr := hw9.rng ⟨len, st, sl, dp, hl, ht⟩
    have hne : wRem n F a ≠ 2 := by
      unfold wRem
      (repeat' split) <;> omega
    have kc := sX_remove_x h0 (s_change_no hS hT hG hq8 (i := 6) (by decide) hw9 hw0)
    rcases (show wRem n F a = 1 ∨ wRem n F a = 3 by omega) with e | e
    · have e1 : (if wRem n F a = 3 then 2 else wRem n F a) = 1 := by rw [e]; rfl
      have km := s_remove_no (h := h) (I := h.2.1) (F := F) hR c0.1 hn24 (x := a) (by rw [e1]; decide)
      rw [e1] at km
      rw [e] at kc
      exact OSt.no r (sL_remove_x0 h0 kc) km (RfK.th _ _) (zup_s _ _ _ _) (by decide)
    · have e1 : (if wRem n F a = 3 then 2 else wRem n F a) = 2 := by rw [e]; rfl
      have km := s_remove_no (h := h) (I := h.2.1) (F := F) hR c0.1 hn24 (x := a) (by rw [e1]; decide)
      rw [e1] at km
      rw [e] at kc
      exact OSt.no r (sL_remove_x2 h0 kc) km (RfK.th _ _) (zup_s _ _ _ _) (by decide)
  obtain ⟨k, e1, kn, kf, kx⟩ := wRem_pos hw0
  have kp0 : 0 ≤ h.2.1 260 1 ∧ h.2.1 260 1 ≤ 4 := by
    have := hS.2.2.2.2.1.2
    rw [hK.1]
    omega
  obtain ⟨-, G1, F1, -, g1, g2, -⟩ := s_remove (h := h) (I := h.2.1) (F := F) hR c0.1 hn24 kp0 hw hw.pl e1 hw0
  rw [← kf] at g1
  have gb := gcnt_bd G1 n
  have en : (((n : Int) - gcnt G1 n).toNat : Int) = n - gcnt G1 n := by omega
  have hI1 : IsRem n F k G1 ((n : Int) - gcnt G1 n).toNat F1 := ⟨g1, en, g2⟩
  have hw90 : IsWhy n F (((6 : Nat) : Int) + 1) a 0 0 0 := by
    have hw9' := hw9
    rw [hw0] at hw9'
    exact hw9'
  have hch : IsChg n F ad dl (((6 : Nat) : Int) + 1) a 0 0 ((n : Int) - gcnt G1 n).toNat F1 ad dl (gcnt G1 n) := Or.inr (Or.inr (Or.inr (Or.inr (Or.inr (Or.inr (Or.inl (⟨rfl, rfl, rfl, k, G1, e1, hI1, rfl⟩)))))))
  obtain ⟨σ2, I3, R3, k1, k2, k3, k4⟩ := s_changeC hS hT hG hq8 (i := 6) (by decide) hw90 hch
  have k3' : ∀ o, 260 ≤ o → I3 o = h.2.1 o ∧ R3 o = h.2.2 o := fun o ho => k3 o (Or.inr ho)
  obtain ⟨hR3, hK3, hn3, -, hkp3⟩ := r.aft k3' (gcnt G1 n)
  have ho3 : (h.1, I3, R3).1[271]? = some (9, 1) := ho
  have hfx : ∀ x : Int, x < 3 → fsav (zup I3 271 0 (gcnt G1 n)) F 0 261 x = (zup I3 271 0 (gcnt G1 n)) 261 x := fun x hx => fsav_x _ _ _ hkp3 hx
  obtain ⟨I4, G2, F2, r1, g3, g4, km⟩ := s_remove (h := (h.1, I3, R3)) (I := zup I3 271 0 (gcnt G1 n)) (F := F) hR3 hn3.1 hn24 hkp3 hw hw.pl e1 hw0
  rw [← kf] at g3
  have gb2 := gcnt_bd G2 n
  have en2 : (((n : Int) - gcnt G2 n).toNat : Int) = n - gcnt G2 n := by omega
  have hI2 : IsRem n F k G2 ((n : Int) - gcnt G2 n).toNat F2 := ⟨g3, en2, g4⟩
  obtain ⟨u1, u2, u3⟩ := hI1.agr hI2
  have hI2' : IsRem n F k G2 ((n : Int) - gcnt G1 n).toNat F2 := by
    rw [u1]
    exact hI2
  have hch2 : IsChg n F ad dl (((6 : Nat) : Int) + 1) a 0 0 ((n : Int) - gcnt G1 n).toNat F2 ad dl (gcnt G2 n) := Or.inr (Or.inr (Or.inr (Or.inr (Or.inr (Or.inr (Or.inl (⟨rfl, rfl, rfl, k, G2, e1, hI2', rfl⟩)))))))
  have hG2 : Gd (q + 1) ((n : Int) - gcnt G1 n).toNat F2 ad dl := hG.step hw90 hch2
  rw [← u2] at km
  have f8 : ∀ x : Int, I4 261 x = fsav (zup I3 271 0 (gcnt G1 n)) F 0 261 x := fun x => congrFun (r1 261 (by decide)) x
  have er : RfS (fsav (zup I3 271 0 (gcnt G1 n)) F 0) I4 := ⟨fun o ho => r1 o (by omega), ⟨congrFun (r1 260 (by decide)) 1, congrFun (r1 260 (by decide)) 4⟩, r1 262 (by decide), fun x _ _ => f8 x⟩
  refine OSt.chg r k1 (u3.ts k2) k3' hG2 (sL_remove h0 ho3 (sX_remove h0 k4)) km ⟨RfS.rfl' _, fun _ _ => rfl⟩ (er.trans (RfS.row _ _ (by decide))) ((zup_o _ _ _ _ (by decide)).trans ((congrFun (r1 260 (by decide)) 2).trans (fsav_th _ _))) ⟨(zup_s _ _ _ _).trans en.symm, ?_, ?_⟩
  · exact (zup_k _ _ _ _ (by decide)).trans ((f8 1).trans ((hfx 1 (by decide)).trans hn3.2.1))
  · exact (zup_k _ _ _ _ (by decide)).trans ((f8 2).trans ((hfx 2 (by decide)).trans hn3.2.2))
