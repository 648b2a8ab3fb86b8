/-! ===== class and reference, side by side ===== -/
def sx (s : Nat × zF × Int × Int) (x : Int) : Int := if x = 0 then s.1 else if x = 1 then s.2.2.1 else if x = 2 then s.2.2.2 else s.2.1 ((x - 3) / 7) ((x - 3) % 7)
def Sec (I : Nat → Int → Int) (b : Int) (s : Nat × zF × Int × Int) : Prop := ∀ x : Int, 0 ≤ x → x < 171 → I 261 (171 * b + x) = sx s x
def RK (I : Nat → Int → Int) (cnt : Nat) (t : Int → Int) (L : Nat) (S : Nat → Nat × zF × Int × Int) : Prop := I 260 1 = cnt ∧ TX I t L ∧ ∀ j : Nat, j < cnt → Sec I ((j : Int) + 1) (S j)
def RC (I : Nat → Int → Int) (s : Nat × zF × Int × Int) : Prop := ∀ x : Int, 0 ≤ x → x < 171 → I 261 x = sx s x
def RfS (I I' : Nat → Int → Int) : Prop := (∀ o, (o < 260 ∨ 271 ≤ o) → I' o = I o) ∧ (I' 260 1 = I 260 1 ∧ I' 260 4 = I 260 4) ∧ I' 262 = I 262 ∧ ∀ x : Int, 171 ≤ x → x < 855 → I' 261 x = I 261 x
def RfK (I I' : Nat → Int → Int) : Prop := RfS I I' ∧ ∀ x : Int, x < 3 → I' 261 x = I 261 x
theorem RfS.rfl' (I : Nat → Int → Int) : RfS I I := ⟨fun _ _ => rfl, ⟨rfl, rfl⟩, rfl, fun _ _ _ => rfl⟩
theorem RfS.trans {I I2 I3 : Nat → Int → Int} (a : RfS I I2) (b : RfS I2 I3) : RfS I I3 := ⟨fun o h => (b.1 o h).trans (a.1 o h), ⟨b.2.1.1.trans a.2.1.1, b.2.1.2.trans a.2.1.2⟩, b.2.2.1.trans a.2.2.1, fun x h1 h2 => (b.2.2.2 x h1 h2).trans (a.2.2.2 x h1 h2)⟩
theorem RfK.trans {I I2 I3 : Nat → Int → Int} (a : RfK I I2) (b : RfK I2 I3) : RfK I I3 := ⟨a.1.trans b.1, fun x h => (b.2 x h).trans (a.2 x h)⟩
theorem RfK.th (I : Nat → Int → Int) (v : Int) : RfK I (zup I 260 2 v) := ⟨⟨fun o h => funext fun x => zup_o _ _ _ _ (by omega), ⟨zup_k _ _ _ _ (by decide), zup_k _ _ _ _ (by decide)⟩, funext fun x => zup_o _ _ _ _ (by decide), fun x _ _ => zup_o _ _ _ _ (by decide)⟩, fun x _ => zup_o _ _ _ _ (by decide)⟩
theorem zKeep.rf {I I2 : Nat → Int → Int} {v : Int} (h : zKeep (zup I 260 2 v) I2) : RfK I I2 := (RfK.th I v).trans ⟨⟨fun o a => h.1 o (by omega), ⟨congrFun (h.1 260 (by decide)) 1, congrFun (h.1 260 (by decide)) 4⟩, h.1 262 (by decide), fun x a b => h.2 x (Or.inr ⟨a, b⟩)⟩, fun x a => h.2 x (Or.inl a)⟩
theorem zKeep.th {I I2 : Nat → Int → Int} {v : Int} (h : zKeep (zup I 260 2 v) I2) : I2 260 2 = v := (congrFun (h.1 260 (by decide)) 2).trans (zup_s _ _ _ _)
theorem zPk.rf {I I2 : Nat → Int → Int} {v : Int} (h : zPk (zup I 260 2 v) I2) : RfK I I2 := (RfK.th I v).trans ⟨⟨fun o a => h.1 o (by omega) (by omega), ⟨h.2 1 (by decide) (by decide), h.2 4 (by decide) (by decide)⟩, h.1 262 (by decide) (by decide), fun x _ _ => congrFun (h.1 261 (by decide) (by decide)) x⟩, fun x _ => congrFun (h.1 261 (by decide) (by decide)) x⟩
theorem zFr.rs {I I2 : Nat → Int → Int} (h : zFr I I2) : RfS I I2 := ⟨fun o a => h.1 o (by omega), ⟨h.2.1 1 (by decide) (by decide), h.2.1 4 (by decide) (by decide)⟩, h.1 262 (by decide), h.2.2⟩
theorem RfS.row (I : Nat → Int → Int) {x : Int} (v : Int) (hx : x < 171) : RfS I (zup I 261 x v) := ⟨fun o a => funext fun y => zup_o _ _ _ _ (by omega), ⟨zup_o _ _ _ _ (by decide), zup_o _ _ _ _ (by decide)⟩, funext fun y => zup_o _ _ _ _ (by decide), fun y a _ => zup_k _ _ _ _ (by omega)⟩
theorem RfS.zr (I : Nat → Int → Int) (F : zF) : RfS I (zrw I F) := ⟨fun o a => zrw_o I F (by omega), ⟨congrFun (zrw_o I F (by decide)) 1, congrFun (zrw_o I F (by decide)) 4⟩, zrw_o I F (by decide), fun x a _ => zrw_x I F (Or.inr a)⟩
theorem RK.fr {I I' : Nat → Int → Int} {cnt : Nat} {t : Int → Int} {L : Nat} {S : Nat → Nat × zF × Int × Int} (h : RK I cnt t L S) (hc : cnt ≤ 4) (e : RfS I I') : RK I' cnt t L S := by
  refine ⟨e.2.1.1.trans h.1, ⟨e.2.1.2.trans h.2.1.1, h.2.1.2.1, fun p hp => (congrFun e.2.2.1 p).trans (h.2.1.2.2 p hp)⟩, fun j hj x h0 h1 => ?_⟩
  rw [e.2.2.2 _ (by omega) (by omega)]
  exact h.2.2 j hj x h0 h1
theorem RC.zr {I : Nat → Int → Int} {F : zF} {n : Nat} {ad dl : Int} (e : I 261 0 = n ∧ I 261 1 = ad ∧ I 261 2 = dl) : RC (zrw I F) (n, F, ad, dl) := fun x h0 h1 => by
  unfold sx
  by_cases c0 : x = 0
  · subst c0; rw [if_pos rfl, zrw_x _ _ (by omega)]; exact e.1
  · rw [if_neg c0]
    by_cases c1 : x = 1
    · subst c1; rw [if_pos rfl, zrw_x _ _ (by omega)]; exact e.2.1
    · rw [if_neg c1]
      by_cases c2 : x = 2
      · subst c2; rw [if_pos rfl, zrw_x _ _ (by omega)]; exact e.2.2
      · rw [if_neg c2]
        exact if_pos ⟨rfl, by omega, by omega⟩
theorem RC.get {I : Nat → Int → Int} {n : Nat} {F : zF} {ad dl : Int} (h : RC I (n, F, ad, dl)) : I 261 0 = n ∧ I 261 1 = ad ∧ I 261 2 = dl ∧ zrw I F = I := by
  refine ⟨h 0 (by decide) (by decide), h 1 (by decide) (by decide), h 2 (by decide) (by decide), zrw_id fun k w k0 k1 w0 w1 => ?_⟩
  have e := h (3 + 7 * k + w) (by omega) (by omega)
  rw [e]
  unfold sx
  rw [if_neg (by omega), if_neg (by omega), if_neg (by omega)]
  show F ((3 + 7 * k + w - 3) / 7) ((3 + 7 * k + w - 3) % 7) = F k w
  rw [show (3 + 7 * k + w - 3) / 7 = k by omega, show (3 + 7 * k + w - 3) % 7 = w by omega]
/-- a state saved -/
theorem RK.sav {I : Nat → Int → Int} {cnt : Nat} {t : Int → Int} {L : Nat} {S : Nat → Nat × zF × Int × Int} (h : RK I cnt t L S) (hc : cnt ≤ 4) {n : Nat} {F : zF} {ad dl : Int} (e : I 261 0 = n ∧ I 261 1 = ad ∧ I 261 2 = dl) (w : Int) : RK (fsav I F w) (if cnt = 4 then 4 else cnt + 1) t L (svS cnt S (n, F, ad, dl)) ∧ ∀ o, (o < 260 ∨ 271 ≤ o) → fsav I F w o = I o := by
  have hJ : RC (zrw (zup I 260 2 w) F) (n, F, ad, dl) := RC.zr ⟨(zup_o _ _ _ _ (by decide)).trans e.1, (zup_o _ _ _ _ (by decide)).trans e.2.1, (zup_o _ _ _ _ (by decide)).trans e.2.2⟩
  have hkp : zrw (zup I 260 2 w) F 260 1 = cnt := (fsav_kept I F w).trans h.1
  have hb : 0 ≤ zrw (zup I 260 2 w) F 260 1 ∧ zrw (zup I 260 2 w) F 260 1 ≤ 4 := by rw [hkp]; omega
  have hhi : ∀ x : Int, 171 ≤ x → zrw (zup I 260 2 w) F 261 x = I 261 x := fun x hx => (zrw_x _ _ (Or.inr hx)).trans (zup_o _ _ _ _ (by decide))
  refine ⟨⟨?_, ⟨?_, h.2.1.2.1, fun p hp => ?_⟩, fun j hj x h0 h1 => ?_⟩, fun o ho => ?_⟩
  · show zsav (zrw (zup I 260 2 w) F) 260 1 = _
    rw [zsav_kept, hkp]
    by_cases c : cnt = 4
    · rw [if_pos (by omega), if_pos c]; rfl
    · rw [if_neg (by omega), if_neg c]; rfl
  · show zsav (zrw (zup I 260 2 w) F) 260 4 = _
    rw [zsav_260 _ (by decide), zrw_o _ _ (by decide), zup_k _ _ _ _ (by decide)]
    exact h.2.1.1
  · show zsav (zrw (zup I 260 2 w) F) 262 p = _
    rw [zsav_o _ (by decide) (by decide), zrw_o _ _ (by decide), zup_o _ _ _ _ (by decide)]
    exact h.2.1.2.2 p hp
  · have hj4 : j < 4 := by
      by_cases c : cnt = 4
      · rw [if_pos c] at hj; exact hj
      · rw [if_neg c] at hj; omega
    show zsav (zrw (zup I 260 2 w) F) 261 (171 * ((j : Int) + 1) + x) = _
    rw [zsav_sec _ hb (j := (j : Int) + 1) (by omega) ⟨h0, h1⟩, hkp]
    unfold svS
    by_cases c : cnt = 4
    · rw [if_pos (by omega), if_pos c]
      unfold putS
      by_cases d : j = 3
      · rw [if_pos (by omega), if_pos d]
        exact hJ x h0 h1
      · rw [if_neg (by omega), if_neg d, hhi _ (by omega)]
        have e9 : rotS S j = S (j + 1) := by
          unfold rotS rotρ
          rw [if_pos (by omega)]
        rw [e9]
        exact h.2.2 (j + 1) (by omega) x h0 h1
    · rw [if_neg (by omega), if_neg c]
      rw [if_neg c] at hj
      unfold putS
      by_cases d : j = cnt
      · rw [if_pos (by omega), if_pos d]
        exact hJ x h0 h1
      · rw [if_neg (by omega), if_neg d, hhi _ (by omega)]
        exact h.2.2 j (by omega) x h0 h1
  · show zsav (zrw (zup I 260 2 w) F) o = _
    rw [zsav_o _ (by omega) (by omega), zrw_o _ _ (by omega)]
    exact funext fun x => zup_o _ _ _ _ (by omega)
theorem zRM.fr {h : zH} (hR : zRM h) {I' : Nat → Int → Int} {R' : Nat → Int → Option Nat} (e : R' 260 = h.2.2 260) : zRM (h.1, I', R') := by
  obtain ⟨k, a⟩ := hR
  refine ⟨k, ?_⟩
  show R' 260 0 = _ ∧ R' 260 3 = _ ∧ R' 260 5 = _ ∧ R' 260 6 = _ ∧ R' 260 7 = _ ∧ R' 260 8 = _ ∧ R' 260 9 = _ ∧ R' 260 10 = _ ∧ R' 260 13 = _ ∧ R' 260 14 = _
  rw [e]
  exact a
/-- the relation -/
def GdS (q : Nat) (s : Nat × zF × Int × Int) : Prop := Gd q s.1 s.2.1 s.2.2.1 s.2.2.2
def RLx (h : zH) (q : Nat) (σ : Nat → Nat) (cnt : Nat) (t : Int → Int) (L : Nat) (S : Nat → Nat × zF × Int × Int) (n : Nat) (F : zF) (ad dl : Int) : Prop :=
  (CS h σ cnt t L S ∧ TS h (oTr (σ 4)) n F ad dl) ∧ (GdS q (n, F, ad, dl) ∧ ∀ j, j < cnt → GdS q (S j)) ∧ BY t L ∧ (zRM h ∧ RK h.2.1 cnt t L S ∧ RC h.2.1 (n, F, ad, dl))
def RLn (h : zH) (q : Nat) : Prop := ∃ (σ : Nat → Nat) (cnt : Nat) (t : Int → Int) (L : Nat) (S : Nat → Nat × zF × Int × Int) (n : Nat) (F : zF) (ad dl : Int), RLx h q σ cnt t L S n F ad dl
theorem GdS.mono {q q' : Nat} {s : Nat × zF × Int × Int} (h : GdS q s) (e : q ≤ q') : GdS q' s := by
  obtain ⟨⟨dep, hW⟩, hN, hA, hD⟩ := h
  exact ⟨⟨dep, hW.mono (by omega)⟩, hN, ⟨hA.1, by omega⟩, hD⟩
section RLX
variable {h : zH} {q : Nat} {σ : Nat → Nat} {cnt : Nat} {t : Int → Int} {L : Nat} {S : Nat → Nat × zF × Int × Int} {n : Nat} {F : zF} {ad dl : Int}
theorem RLx.mono (r : RLx h q σ cnt t L S n F ad dl) {q' : Nat} (e : q ≤ q') : RLx h q' σ cnt t L S n F ad dl := ⟨r.1, ⟨r.2.1.1.mono e, fun j hj => (r.2.1.2 j hj).mono e⟩, r.2.2⟩
theorem RLx.hs (r : RLx h q σ cnt t L S n F ad dl) {j : Nat} (hj : j < 5) : 5 ≤ oTr (σ j) ∧ oTr (σ j) + 51 ≤ 260 := by
  have := r.1.1.2.2.1.1 j hj
  unfold oTr
  omega
/-- what changes nothing below 260 -/
theorem CS.hi (hS : CS h σ cnt t L S) {I' : Nat → Int → Int} (e : ∀ o, o < 260 → I' o = h.2.1 o) : CS (h.1, I', h.2.2) σ cnt t L S := by
  refine hS.fr (congrFun (e 0 (by decide)) 2) (congrFun (e 1 (by decide)) 1) (e 2 (by decide)) (fun o _ => rfl) (fun j hj o h1 h2 => ⟨e o ?_, rfl⟩)
  have := hS.2.2.1.1 j (by omega)
  unfold oTr at h2
  omega
theorem TS.hi (hS : CS h σ cnt t L S) (hT : TS h (oTr (σ 4)) n F ad dl) {I' : Nat → Int → Int} (e : ∀ o, o < 260 → I' o = h.2.1 o) : TS (h.1, I', h.2.2) (oTr (σ 4)) n F ad dl := by
  refine hT.fr (fun o h1 h2 => ⟨e o ?_, rfl⟩)
  have := hS.2.2.1.1 4 (by omega)
  unfold oTr at h2
  omega
/-- the reference reads -/
theorem RLx.quiet (r : RLx h q σ cnt t L S n F ad dl) {I2 : Nat → Int → Int} (e : RfK h.2.1 I2) : RLx (h.1, zrw I2 F, h.2.2) q σ cnt t L S n F ad dl := by
  have e1 : ∀ o, o < 260 → zrw I2 F o = h.2.1 o := fun o ho => (zrw_o _ _ (by omega)).trans (e.1.1 o (Or.inl ho))
  have c := r.2.2.2.2.2.get
  refine ⟨⟨r.1.1.hi e1, TS.hi r.1.1 r.1.2 e1⟩, r.2.1, r.2.2.1, r.2.2.2.1.fr rfl, r.2.2.2.2.1.fr r.1.1.2.2.2.2.1.2 (e.1.trans (RfS.zr _ _)), RC.zr ⟨(e.2 0 (by decide)).trans c.1, (e.2 1 (by decide)).trans c.2.1, (e.2 2 (by decide)).trans c.2.2.1⟩⟩
/-- the long that is written -/
theorem RLx.out (r : RLx h q σ cnt t L S n F ad dl) (v : Int) : RLx (h.1, zup h.2.1 271 0 v, h.2.2) q σ cnt t L S n F ad dl := by
  have e : ∀ o, o ≠ 271 → (zup h.2.1 271 0 v) o = h.2.1 o := fun o ho => funext fun x => zup_o _ _ _ _ ho
  have e1 : ∀ o, o < 260 → (zup h.2.1 271 0 v) o = h.2.1 o := fun o ho => e o (by omega)
  have k := r.2.2.2.2.1
  exact ⟨⟨r.1.1.hi e1, TS.hi r.1.1 r.1.2 e1⟩, r.2.1, r.2.2.1, r.2.2.2.1.fr rfl, ⟨(congrFun (e 260 (by decide)) 1).trans k.1, ⟨(congrFun (e 260 (by decide)) 4).trans k.2.1.1, k.2.1.2.1, fun p hp => (congrFun (e 262 (by decide)) p).trans (k.2.1.2.2 p hp)⟩, fun j hj x h0 h1 => (congrFun (e 261 (by decide)) _).trans (k.2.2 j hj x h0 h1)⟩, fun x h0 h1 => (congrFun (e 261 (by decide)) x).trans (r.2.2.2.2.2 x h0 h1)⟩
end RLX
