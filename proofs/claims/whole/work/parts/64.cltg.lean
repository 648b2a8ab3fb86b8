/-! ===== the step that runs a text ===== -/
theorem RK.same {I I' : Nat → Int → Int} {cnt : Nat} {t : Int → Int} {L : Nat} {S : Nat → Nat × zF × Int × Int} (k : RK I cnt t L S) (e : ∀ o, 260 ≤ o → I' o = I o) : RK I' cnt t L S := ⟨(congrFun (e 260 (by decide)) 1).trans k.1, ⟨(congrFun (e 260 (by decide)) 4).trans k.2.1.1, k.2.1.2.1, fun p hp => (congrFun (e 262 (by decide)) p).trans (k.2.1.2.2 p hp)⟩, fun j hj x h0 h1 => (congrFun (e 261 (by decide)) _).trans (k.2.2 j hj x h0 h1)⟩
theorem RLx.text {h : zH} {q : Nat} {σ : Nat → Nat} {cnt : Nat} {t : Int → Int} {L : Nat} {S : Nat → Nat × zF × Int × Int} {n : Nat} {F : zF} {ad dl : Int} (r : RLx h q σ cnt t L S n F ad dl) {I3 : Nat → Int → Int} (e : zCk h.2.1 I3) : RLx (h.1, I3, h.2.2) q σ cnt t L S n F ad dl := by
  have e1 : ∀ o, 260 ≤ o → I3 o = h.2.1 o := fun o ho => e.1 o (by omega) (by omega)
  exact ⟨⟨r.1.1.text e, r.1.2.text (by unfold oTr; omega) e⟩, r.2.1, r.2.2.1, r.2.2.2.1.fr rfl, r.2.2.2.2.1.same e1, fun x h0 h1 => (congrFun (e1 261 (by decide)) x).trans (r.2.2.2.2.2 x h0 h1)⟩
theorem st_run {h : zH} {q : Nat} (hRL : RLn h q) (hq : q ≤ 10800) : OS0 zi M_X6_runCommands M_X7_runCommands h q := by
  obtain ⟨σ, cnt, t, L, S, n, F, ad, dl, r⟩ := hRL
  have r0 := r
  obtain ⟨⟨hS, ar, qq, len, st, sl, dp, hC, hl, ht, hP⟩, ⟨hG9, hGS⟩, hb, hR, hK, hc⟩ := r0
  have hG : Gd q n F ad dl := hG9
  have hG' := hG
  obtain ⟨⟨dep, hw⟩, hN, hA, hd⟩ := hG'
  have hB : 24 * (60 + 99 * (q : Int)) ≤ 1000000000 := by omega
  have hn24 : n ≤ 24 := hC.n24
  have c0 := hc.get
  have h0 : h.1[0]? = some (3, 0) := zk_at hR.1 rfl
  have ho : h.1[271]? = some (9, 1) := zk_at hR.1 rfl
  have cv : ∀ v : Int, (zup h.2.1 271 0 v) 261 0 = n ∧ (zup h.2.1 271 0 v) 261 1 = ad ∧ (zup h.2.1 271 0 v) 261 2 = dl := fun v => by
    have := (r.out v).2.2.2.2.2.get
    exact ⟨this.1, this.2.1, this.2.2.1⟩
  have hT : TS h (oTr (σ 4)) n F ad dl := r.1.2
  have hq8 : q ≤ 80000 := by omega
  have hL := hS.2.1.2.1
  have hc4 := hS.2.2.2.2.1.2
  by_cases hf : fltF t L (L + 1) (sk t L 0) = -1
  rotate_left
  · obtain ⟨I3, q1, kc⟩ := s_runC_no hS hb hf
    have r1 := r.text q1
    obtain ⟨I1, e1, km⟩ := s_runCommands_no (h := (h.1, I3, h.2.2)) (I := I3) (F := F) r1.2.2.2.1 r1.2.2.2.2.1.2.1 hb hf
    have ez : zrw I3 F = I3 := r1.2.2.2.2.2.get.2.2.2
    rw [ez] at km
    have er : RfK I3 I1 := zPk.rf e1
    exact ⟨(h.1, I3, h.2.2), (h.1, zrw I1 F, h.2.2), _, kc, km, (RLx.quiet r1 er).rl (by omega), fun o ho => (zrw_o I1 F (by omega)).trans ((er.1.1 o (Or.inr (by omega))).trans (q1.1 o (by omega) (by omega))), hR.1⟩
  have kp0 : 0 ≤ h.2.1 260 1 ∧ h.2.1 260 1 ≤ 4 := by
    rw [hK.1]
    omega
  obtain ⟨-, -, d, n2, F2, ad2, dl2, -, hR1, -, -, -⟩ := s_runCommands (h := h) (I := h.2.1) (F := F) hR hG (by omega) c0.1 c0.2.1 c0.2.2.1 kp0 hK.2.1 hb hf
  obtain ⟨σ2, I3, R3, k1, k2, k3, k4⟩ := s_runC hS hT hG (by omega) hb hf hR1
  have hR3 : zRM (h.1, I3, R3) := hR.fr (k3 260 (by decide)).2
  have e3 : ∀ o, 260 ≤ o → I3 o = h.2.1 o := fun o ho => (k3 o ho).1
  have hK3 : RK I3 cnt t L S := hK.same e3
  have hc3 : RC I3 (n, F, ad, dl) := fun x h0 h1 => (congrFun (e3 261 (by decide)) x).trans (hc x h0 h1)
  have g3 := hc3.get
  have kp3 : 0 ≤ I3 260 1 ∧ I3 260 1 ≤ 4 := by
    rw [hK3.1]
    omega
  obtain ⟨I1, I2, d9, n9, F9, ad9, dl9, e1, hR2, e2, ex, km⟩ := s_runCommands (h := (h.1, I3, R3)) (I := I3) (F := F) hR3 hG (by omega) g3.1 g3.2.1 g3.2.2.1 kp3 hK3.2.1 hb hf
  obtain ⟨u1, u2, u3, u4, u5⟩ := RunsF.agr (L + 1) (sk t L 0) q n F F ad dl d n2 F2 ad2 dl2 d9 n9 F9 ad9 dl9 hG (fun _ _ _ _ _ => rfl) hR1 hR2
  subst u1
  subst u2
  subst u3
  subst u4
  rw [g3.2.2.2] at km
  have s0 := (sk_ge t L 0).2 (Nat.zero_le L)
  have hgd := RunsF.good (L + 1) (sk t L 0) q n F ad dl d n2 F9 ad2 dl2 hG s0 hR2
  have hsh := RunsF.short (L + 1) (sk t L 0) n F ad dl d n2 F9 ad2 dl2 s0 hR2
  have er : RfK I3 I1 := zPk.rf e1
  have sv := (hK3.fr hc4 er.1).sav hc4 (n := n) (F := F) (ad := ad) (dl := dl) ⟨(er.2 0 (by decide)).trans g3.1, (er.2 1 (by decide)).trans g3.2.1, (er.2 2 (by decide)).trans g3.2.2.1⟩ 0
  have hc5 : (if cnt = 4 then 4 else cnt + 1) ≤ 4 := by split <;> omega
  have low : ∀ o, (o < 260 ∨ 271 ≤ o) → zrw I2 F9 o = I3 o := fun o ho => (zrw_o I2 F9 (by omega)).trans ((e2.rs.1 o ho).trans ((sv.2 o ho).trans (er.1.1 o ho)))
  have low2 : ∀ o, o < 260 → zrw I2 F9 o = I3 o := fun o ho => low o (Or.inl ho)
  have hg1 : GdS (q + d) (n2, F9, ad2, dl2) := hgd.1
  exact ⟨(h.1, I3, R3), (h.1, zrw I2 F9, R3), (d : Int), k4, km, ⟨σ2, _, t, L, _, n2, F9, ad2, dl2, ⟨CS.hi (h := (h.1, I3, R3)) k1 low2, TS.hi (h := (h.1, I3, R3)) k1 (u5.ts k2) low2⟩, ⟨hg1.mono (by omega), svS_all hc4 (fun j hj => (r.2.1.2 j hj).mono (by omega)) (r.2.1.1.mono (by omega))⟩, hb, hR3.fr rfl, sv.1.fr hc5 (e2.rs.trans (RfS.zr _ _)), RC.zr ex⟩, fun o ho => (low o (Or.inr (by omega))).trans (e3 o (by omega)), hR.1⟩
