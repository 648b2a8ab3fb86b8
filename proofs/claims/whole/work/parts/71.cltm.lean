/-! ===== the fresh state; the law from its first instruction ===== -/
theorem kt_all : KK.take 272 = KK := List.take_of_length_le (by rw [KK_len]; exact Nat.le_refl _)
def F00 : zF := fun k w => if k = 0 ∧ (w = 2 ∨ w = 3 ∨ w = 4) then -1 else 0
theorem mrl00 (g r : Int) : mrl 1 F00 (fun _ => 0) g r = 0 := by
  unfold mrl
  have e : (fun k : Int => if F00 k 2 = g ∧ F00 k 3 = r then (fun _ : Int => (0 : Int)) k else 0) = fun _ => 0 := funext fun k => by split <;> rfl
  rw [e]
  rfl
theorem WF00 : WF 1 F00 (fun _ => 0) (99 * ((0 : Nat) : Int)) := by
  refine ⟨⟨by decide, by decide⟩, ⟨by decide, by decide, by decide, by decide, by decide⟩, fun i j a b => absurd b (by omega), fun k hk => ?_, fun k a b => absurd b (by omega), rfl⟩
  obtain rfl : k = 0 := by omega
  exact ⟨Or.inl (by decide), ⟨by decide, by decide⟩, ⟨by decide, by decide⟩, fun _ => ⟨by decide, by decide⟩⟩
theorem Gd00 : Gd 0 1 F00 1 99 := by
  refine ⟨⟨_, WF00⟩, fun k hk => ?_, ⟨by decide, by decide⟩, ⟨by decide, by decide⟩⟩
  obtain rfl : k = 0 := by omega
  decide
theorem FTi.ts {h : zH} {T : Nat} (hK : h.1 = KK) (hT : KT T) (hF : FTi T 24 h.2.1 h.2.2) : TS h T 1 F00 1 99 := by
  obtain ⟨f1, f2, f3, -⟩ := hF
  have f0 := (f3 0 (by decide)).1
  refine ⟨fun i => T + 3 + 2 * i, fun i => i, fun _ => 0, fun _ => 0, fun _ => 0, fun _ => 0, ⟨⟨⟨zk_at hK hT.1, zk_at hK hT.2.1, zk_at hK hT.2.2.1⟩, f2, f1⟩, ⟨fun i hi => ⟨(f3 i hi).2, ⟨zk_at hK (hT.2.2.2 i hi).1, zk_at hK (hT.2.2.2 i hi).2, (f3 i hi).1.2.2.1.2⟩, Or.inl (f3 i hi).1.1.2.1⟩, fun i hi => ⟨i, hi, rfl⟩, fun i j _ _ e => by
    have e9 : T + 3 + 2 * i = T + 3 + 2 * j := e
    omega, rfl⟩, ⟨⟨by decide, by decide⟩, ⟨fun i hi => hi, fun i j _ _ e => e, rfl⟩⟩, fun i hi => ?_, ⟨f0.2.2.1.1, f0.2.1.1, f0.2.1.2.1, f0.2.1.2.2.2.1, f0.2.1.2.2.2.2.1, f0.2.1.2.2.2.2.2⟩, fun i a b => absurd b (by omega)⟩, fun k hk => ?_, ⟨rfl, rfl, rfl, fun k p a b => absurd b (by omega)⟩, fun i hi => ?_⟩
  · obtain rfl : i = 0 := by omega
    exact ⟨f0.1.1, f0.1.2.1, f0.1.2.2.1, f0.1.2.2.2.1, f0.1.2.2.2.2.1, f0.1.2.2.2.2.2⟩
  · obtain rfl : k = 0 := by omega
    show (0 : Int) = mln 1 F00 (fun _ => 0) 0
    unfold mln mlg
    rw [mrl00, mrl00, mrl00, mrl00]
    decide
  · obtain rfl : i = 0 := by omega
    refine ⟨⟨f0.2.1.1, f0.2.1.2.1, f0.2.1.2.2.1, f0.2.1.2.2.2.1, ?_, f0.2.1.2.2.2.2.2⟩, fun r _ _ => ?_, fun _ => f0.2.2.1.1, fun j hj e => ?_⟩
    · exact f0.2.1.2.2.2.2.1
    · rw [mrl00]
      exact f0.2.2.2 r
    · obtain rfl : j = 0 := by omega
      exact absurd e (by decide)
def MFr (I : Nat → Int → Int) (R : Nat → Int → Option Nat) : Prop := (R 260 0 = some 261 ∧ R 260 3 = some 262 ∧ R 260 5 = some 263 ∧ R 260 6 = some 264 ∧ R 260 7 = some 265 ∧ R 260 8 = some 266 ∧ R 260 9 = some 267 ∧ R 260 10 = some 268 ∧ R 260 13 = some 269 ∧ R 260 14 = some 270) ∧ (I 260 1 = 0 ∧ I 260 4 = 0) ∧ ∀ x : Int, 0 ≤ x → x < 171 → I 261 x = sx (1, F00, 1, 99) x
theorem RLn.fresh {h : zH} (hK : h.1 = KK) (hF : SFi 4 h.2.1 h.2.2) (hM : MFr h.2.1 h.2.2) : RLn h 0 := by
  obtain ⟨a1, a2, ⟨a3, a4⟩, -⟩ := hF
  obtain ⟨m1, m2, m3⟩ := hM
  have hR : zRM h := ⟨hK, m1⟩
  have t4 : ∀ j, j < 4 → TS h (56 + 51 * j) 1 F00 1 99 := fun j hj => (a4 j hj).1.ts hK (KT_56 hj)
  have t5 : TS h 5 1 F00 1 99 := a3.ts hK (KT_of (t := 0) (by decide))
  have eσ : ∀ j, j < 4 → oTr ((fun j : Nat => if j = 4 then 0 else j + 1) j) = 56 + 51 * j := fun j hj => by
    show 5 + 51 * (if j = 4 then 0 else j + 1) = 56 + 51 * j
    rw [if_neg (by omega)]
    omega
  refine ⟨fun j => if j = 4 then 0 else j + 1, 0, fun _ => 0, 0, fun _ => (1, F00, 1, 99), 1, F00, 1, 99, ⟨⟨⟨hK, a2.2.2.2.1, a2.2.2.2.2, a2.1, a2.2.1⟩, ⟨a1.1, by decide, fun p hp => absurd hp (by omega)⟩, ⟨fun j hj => ?_, fun i j hi hj e => ?_⟩, ⟨fun j hj => ?_, a2.2.2.1⟩, ⟨a1.2, by decide⟩, fun j hj => ?_⟩, t5⟩, ⟨Gd00, fun j hj => absurd hj (by omega)⟩, ⟨by decide, fun p hp => absurd hp (by omega)⟩, hR, ⟨m2.1, ⟨m2.2, by decide, fun p hp => absurd hp (by omega)⟩, fun j hj => absurd hj (by omega)⟩, m3⟩
  · show (if j = 4 then 0 else j + 1) < 5
    split <;> omega
  · have e2 : (if i = 4 then 0 else i + 1) = (if j = 4 then 0 else j + 1) := e
    split at e2 <;> split at e2 <;> omega
  · rw [eσ j hj]
    exact (a4 j hj).2
  · rw [eσ j hj]
    exact (t4 j hj).ct
theorem lk_L_79 {y : zM} (hy : (zname y).cls = RL) : Cond.methodLink (zname y).cls 79 (zname M_X6_init) ∈ zgw ∧ Cond.instanceMethod (zname M_X6_init) ∈ zgw ∧ (parseMethodDescriptor (zname M_X6_init).desc).map (fun d => d.parameters.length) = some 0 := by
  refine ⟨?_, zgw_in (List.mem_of_getElem? (i := 114) (by decide +kernel)) rfl, by decide +kernel⟩
  rw [hy]
  exact zgw_in (List.mem_of_getElem? (i := 113) (by decide +kernel)) rfl
theorem lk_L_82 {y : zM} (hy : (zname y).cls = RL) : Cond.methodLink (zname y).cls 82 (zname M_X7_init) ∈ zgw ∧ Cond.instanceMethod (zname M_X7_init) ∈ zgw ∧ (parseMethodDescriptor (zname M_X7_init).desc).map (fun d => d.parameters.length) = some 0 := by
  refine ⟨?_, zgw_in (List.mem_of_getElem? (i := 941) (by decide +kernel)) rfl, by decide +kernel⟩
  rw [hy]
  exact zgw_in (List.mem_of_getElem? (i := 940) (by decide +kernel)) rfl
theorem s_law {I : Nat → Int → Int} {R : Nat → Int → Option Nat} (hf : zFrs I R 0 272) {N : Int} (hN : I 4131 0 = N) (hN0 : 0 ≤ N) (hN2 : N ≤ 2048) : ∃ hf : zH, Ev M_L_law 0 [(0, zr (some 4130))] [] (KK.take 0, I, R) (0, 0) (.inl (some (zi 1)), hf) := by
  obtain ⟨I6, R6, k6, f6, e6⟩ := s_X6_init (I := I) (R := R) (fun o a b => hf o (by omega) (by omega))
  have h6 : zFrs I6 R6 260 272 := fun o a b => by
    rw [(e6 o a).1, (e6 o a).2]
    exact hf o (by omega) b
  have zI7 : ∀ o, o ≠ 261 → (zup (zup (zup (zup (zup (zup I6 261 0 1) 261 1 1) 261 2 99) 261 5 (-1)) 261 6 (-1)) 261 7 (-1)) o = I6 o := fun o ho => funext fun k => by rw [zup_o _ _ _ _ ho, zup_o _ _ _ _ ho, zup_o _ _ _ _ ho, zup_o _ _ _ _ ho, zup_o _ _ _ _ ho, zup_o _ _ _ _ ho]
  have zR7 : ∀ o, o ≠ 260 → (zup (zup (zup (zup (zup (zup (zup (zup (zup (zup R6 260 0 (some 261)) 260 3 (some 262)) 260 5 (some 263)) 260 6 (some 264)) 260 7 (some 265)) 260 8 (some 266)) 260 9 (some 267)) 260 10 (some 268)) 260 13 (some 269)) 260 14 (some 270)) o = R6 o := fun o ho => funext fun k => by rw [zup_o _ _ _ _ ho, zup_o _ _ _ _ ho, zup_o _ _ _ _ ho, zup_o _ _ _ _ ho, zup_o _ _ _ _ ho, zup_o _ _ _ _ ho, zup_o _ _ _ _ ho, zup_o _ _ _ _ ho, zup_o _ _ _ _ ho, zup_o _ _ _ _ ho]
  have hF : SFi 4 (zup (zup (zup (zup (zup (zup I6 261 0 1) 261 1 1) 261 2 99) 261 5 (-1)) 261 6 (-1)) 261 7 (-1)) (zup (zup (zup (zup (zup (zup (zup (zup (zup (zup R6 260 0 (some 261)) 260 3 (some 262)) 260 5 (some 263)) 260 6 (some 264)) 260 7 (some 265)) 260 8 (some 266)) 260 9 (some 267)) 260 10 (some 268)) 260 13 (some 269)) 260 14 (some 270)) := by
    obtain ⟨a1, a2, ⟨a3, a4⟩, -⟩ := f6
    refine ⟨?_, ?_, ⟨a3.fr (by decide) fun o a b => ⟨zI7 o (by omega), zR7 o (by omega)⟩, fun j hj => ⟨(a4 j hj).1.fr (by decide) fun o a b => ⟨zI7 o (by omega), zR7 o (by omega)⟩, ?_⟩⟩, fun o a b => absurd b (by omega)⟩
    · rw [zI7 0 (by decide), zI7 1 (by decide)]
      exact a1
    · rw [zR7 0 (by decide), zR7 1 (by decide)]
      exact a2
    · rw [zR7 4 (by decide)]
      exact (a4 j hj).2
  have hM : MFr (zup (zup (zup (zup (zup (zup I6 261 0 1) 261 1 1) 261 2 99) 261 5 (-1)) 261 6 (-1)) 261 7 (-1)) (zup (zup (zup (zup (zup (zup (zup (zup (zup (zup R6 260 0 (some 261)) 260 3 (some 262)) 260 5 (some 263)) 260 6 (some 264)) 260 7 (some 265)) 260 8 (some 266)) 260 9 (some 267)) 260 10 (some 268)) 260 13 (some 269)) 260 14 (some 270)) := by
    refine ⟨⟨by simp [zup], by simp [zup], by simp [zup], by simp [zup], by simp [zup], by simp [zup], by simp [zup], by simp [zup], by simp [zup], by simp [zup]⟩, ⟨?_, ?_⟩, fun x h0 h1 => ?_⟩
    · rw [zI7 260 (by decide)]
      exact (h6 260 (by decide) (by decide)).1 1
    · rw [zI7 260 (by decide)]
      exact (h6 260 (by decide) (by decide)).1 4
    · have z0 := (h6 261 (by decide) (by decide)).1 x
      unfold sx
      by_cases c0 : x = 0
      · subst c0; simp [zup]
      by_cases c1 : x = 1
      · subst c1; simp [zup]
      by_cases c2 : x = 2
      · subst c2; simp [zup]
      rw [if_neg c0, if_neg c1, if_neg c2]
      show _ = F00 ((x - 3) / 7) ((x - 3) % 7)
      by_cases c5 : x = 5
      · subst c5; simp [zup, F00]
      by_cases c6 : x = 6
      · subst c6; simp [zup, F00]
      by_cases c7 : x = 7
      · subst c7; simp [zup, F00]
      rw [zup_k _ _ _ _ c7, zup_k _ _ _ _ c6, zup_k _ _ _ _ c5, zup_k _ _ _ _ c2, zup_k _ _ _ _ c1, zup_k _ _ _ _ c0, z0]
      unfold F00
      rw [if_neg (by omega)]
  have hRL := RLn.fresh (h := (KK.take 272, (zup (zup (zup (zup (zup (zup I6 261 0 1) 261 1 1) 261 2 99) 261 5 (-1)) 261 6 (-1)) 261 7 (-1)), (zup (zup (zup (zup (zup (zup (zup (zup (zup (zup R6 260 0 (some 261)) 260 3 (some 262)) 260 5 (some 263)) 260 6 (some 264)) 260 7 (some 265)) 260 8 (some 266)) 260 9 (some 267)) 260 10 (some 268)) 260 13 (some 269)) 260 14 (some 270)))) kt_all hF hM
  have hN7 : (zup (zup (zup (zup (zup (zup I6 261 0 1) 261 1 1) 261 2 99) 261 5 (-1)) 261 6 (-1)) 261 7 (-1)) 4131 0 = N := by
    rw [zI7 4131 (by decide), (e6 4131 (by decide)).1]
    exact hN
  obtain ⟨hz, kk⟩ := lw_loop hN0 hN2 513 0 _ (0 : Int) 0 272 4078 (by decide) (by decide) rfl hRL (by decide) hN7 (by decide) (by decide)
  refine ⟨hz, ?_⟩
  refine Ev.newK (pc := 0) (n := (0, 0)) (m := 0) (c := 3) dL_law_0 (by decide) (zgw_in (List.mem_of_getElem? (i := 111) (by decide +kernel)) rfl) (zgw_in (List.mem_of_getElem? (i := 112) (by decide +kernel)) rfl) (zgw_in (List.mem_of_getElem? (i := 91) (by decide +kernel)) rfl) rfl (fun k => (hf 0 (by decide) (by decide)).1 k) (fun k => (hf 0 (by decide) (by decide)).2 k) ⟨(Nat.le_of_ble_eq_true rfl), (Nat.le_of_ble_eq_true rfl)⟩ ?_
  refine Ev.dup (pc := 3) (n := (1, 4)) dL_law_3 rfl ?_
  refine Ev.callI (pc := 4) (n := (1, 4)) (as := []) (st := [zr (some 0)]) k6 dL_law_4 ok_X6_init (lk_L_79 rfl) rfl rfl ⟨(Nat.le_of_ble_eq_true rfl), (Nat.le_of_ble_eq_true rfl)⟩ rfl (Nat.le_of_ble_eq_true rfl) (Nat.le_of_ble_eq_true rfl) ⟨(Nat.le_of_ble_eq_true rfl), (Nat.le_of_ble_eq_true rfl)⟩ ?_
  refine Ev.astore_n (pc := 7) (n := (260, 2715)) (i := 1) (L' := [(1, zr (some 0)), (0, zr (some 4130))]) dL_law_7 rfl (Nat.le_of_ble_eq_true rfl) rfl ?_
  refine Ev.newK (pc := 8) (n := (260, 2715)) (m := 260) (c := 4) dL_law_8 (by decide) (zgw_in (List.mem_of_getElem? (i := 938) (by decide +kernel)) rfl) (zgw_in (List.mem_of_getElem? (i := 939) (by decide +kernel)) rfl) (zgw_in (List.mem_of_getElem? (i := 95) (by decide +kernel)) rfl) rfl (fun k => (h6 260 (by decide) (by decide)).1 k) (fun k => (h6 260 (by decide) (by decide)).2 k) ⟨(Nat.le_of_ble_eq_true rfl), (Nat.le_of_ble_eq_true rfl)⟩ ?_
  refine Ev.dup (pc := 11) (n := (261, 2730)) dL_law_11 rfl ?_
  refine Ev.callI (pc := 12) (n := (261, 2730)) (as := []) (st := [zr (some 260)]) (s_X7_init (fun o a b => h6 o (by omega) (by omega))) dL_law_12 ok_X7_init (lk_L_82 rfl) rfl rfl ⟨(Nat.le_of_ble_eq_true rfl), (Nat.le_of_ble_eq_true rfl)⟩ rfl (Nat.le_of_ble_eq_true rfl) (Nat.le_of_ble_eq_true rfl) ⟨(Nat.le_of_ble_eq_true rfl), (Nat.le_of_ble_eq_true rfl)⟩ ?_
  refine Ev.astore_n (pc := 15) (n := (271, 4077)) (i := 2) (L' := [(2, zr (some 260)), (1, zr (some 0)), (0, zr (some 4130))]) dL_law_15 rfl (Nat.le_of_ble_eq_true rfl) rfl ?_
  refine Ev.iconst (pc := 16) (n := (271, 4077)) dL_law_16 ?_
  refine Ev.newL (pc := 17) (n := (271, 4077)) (m := 271) (N := 1) dL_law_17 (zgw_in (List.mem_of_getElem? (i := 1322) (by decide +kernel)) rfl) rfl (fun k => (by rw [zI7 271 (by decide)]; exact (h6 271 (by decide) (by decide)).1 k)) rfl (by decide) ⟨(Nat.le_of_ble_eq_true rfl), (Nat.le_of_ble_eq_true rfl)⟩ ?_
  refine Ev.astore_n (pc := 19) (n := (272, 4078)) (i := 3) (L' := [(3, zr (some 271)), (2, zr (some 260)), (1, zr (some 0)), (0, zr (some 4130))]) dL_law_19 rfl (Nat.le_of_ble_eq_true rfl) rfl ?_
  refine Ev.iconst (pc := 20) (n := (272, 4078)) dL_law_20 ?_
  refine Ev.istore (pc := 21) (n := (272, 4078)) (i := 4) (L' := [(4, zi 0), (3, zr (some 271)), (2, zr (some 260)), (1, zr (some 0)), (0, zr (some 4130))]) dL_law_21 (Nat.le_of_ble_eq_true rfl) rfl ?_
  exact kk
