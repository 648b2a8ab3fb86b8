/-! ===== the step that undoes ===== -/
theorem st_undo {h : zH} {q : Nat} (hRL : RLn h q) (hq : q ≤ 10800) : OSt M_L_undo M_X7_undo [] h q := by
  obtain ⟨σ, cnt, t, L, S, n, F, ad, dl, r⟩ := hRL
  have r0 := r
  obtain ⟨⟨hS, ar, qq, len, st, sl, dp, hC, hl, ht, hP⟩, ⟨hG9, hGS⟩, hb, hR, hK, hc⟩ := r0
  have hG : Gd q n F ad dl := hG9
  have hG' := hG
  obtain ⟨⟨dep, hw⟩, hN, hA, hd⟩ := hG'
  have hB : 24 * (60 + 99 * (q : Int)) ≤ 1000000000 := by omega
  have hn24 : n ≤ 24 := hC.n24
  have c0 := hc.get
  have h0 : h.1[0]? = some (3, 0) := zk_at hR.1 rfl
  have ho : h.1[271]? = some (9, 1) := zk_at hR.1 rfl
  have cv : ∀ v : Int, (zup h.2.1 271 0 v) 261 0 = n ∧ (zup h.2.1 271 0 v) 261 1 = ad ∧ (zup h.2.1 271 0 v) 261 2 = dl := fun v => by
    have := (r.out v).2.2.2.2.2.get
    exact ⟨this.1, this.2.1, this.2.2.1⟩
  have hT : TS h (oTr (σ 4)) n F ad dl := r.1.2
  have hq8 : q ≤ 80000 := by omega
  have hc4 := hS.2.2.2.2.1.2
  rcases Nat.eq_zero_or_pos cnt with hc0 | hc0
  · have km := s_undo_no (h := h) (I := h.2.1) (F := F) hR c0.1 hn24 hK.1 (by omega)
    exact OSt.no r (sL_undo_x2 h0 (s_undoC_no hS hc0)) km (RfK.th _ _) (zup_s _ _ _ _) (by decide)
  obtain ⟨k, hck⟩ : ∃ k, cnt = k + 1 := ⟨cnt - 1, by omega⟩
  subst hck
  have hGk : GdS q (S k) := r.2.1.2 k (by omega)
  obtain ⟨σ2, I3, R3, S2, k1, k2, k3, k4, k5⟩ := s_undoC hS hT rfl hGk hq8
  have k3' : ∀ o, 260 ≤ o → I3 o = h.2.1 o ∧ R3 o = h.2.2 o := fun o ho => k4 o (Or.inr ho)
  obtain ⟨hR3, hK3, hn3, -, hkp3⟩ := r.aft k3' (k : Int)
  have ho3 : (h.1, I3, R3).1[271]? = some (9, 1) := ho
  have hfx : ∀ x : Int, x < 3 → fsav (zup I3 271 0 (k : Int)) F 0 261 x = (zup I3 271 0 (k : Int)) 261 x := fun x hx => fsav_x _ _ _ hkp3 hx
  have km := s_undo (h := (h.1, I3, R3)) (I := (zup I3 271 0 (k : Int))) (F := F) hR3 hn3.1 hn24 (kp := ((k + 1 : Nat) : Int)) hK3.1 (by omega)
  have ezr : zrw (zup I3 271 0 (k : Int)) F = (zup I3 271 0 (k : Int)) := (r.aft k3' (k : Int)).2.2.2.1
  rw [ezr] at km
  have x1 : ∀ o, o ≠ 260 → o ≠ 261 → (zup (zcp (zrw (zup (zup I3 271 0 (k : Int)) 260 2 0) F) (171 * ((k + 1 : Nat) : Int)) 0 171) 260 1 (((k + 1 : Nat) : Int) - 1)) o = (zup I3 271 0 (k : Int)) o := fun o a1 a2 => funext fun x => by
    rw [zup_o _ _ _ _ a1, zcp_o _ _ _ _ a2, zrw_o _ _ a2, zup_o _ _ _ _ a1]
  have x2 : ∀ y : Int, y ≠ 1 → y ≠ 2 → (zup (zcp (zrw (zup (zup I3 271 0 (k : Int)) 260 2 0) F) (171 * ((k + 1 : Nat) : Int)) 0 171) 260 1 (((k + 1 : Nat) : Int) - 1)) 260 y = (zup I3 271 0 (k : Int)) 260 y := fun y a1 a2 => by
    rw [zup_k _ _ _ _ a1, zcp_o _ _ _ _ (by decide), zrw_o _ _ (by decide), zup_k _ _ _ _ a2]
  have x3 : ∀ y : Int, 171 ≤ y → (zup (zcp (zrw (zup (zup I3 271 0 (k : Int)) 260 2 0) F) (171 * ((k + 1 : Nat) : Int)) 0 171) 260 1 (((k + 1 : Nat) : Int) - 1)) 261 y = (zup I3 271 0 (k : Int)) 261 y := fun y a1 => by
    rw [zup_o _ _ _ _ (by decide), zcp_out _ _ _ _ (by omega), zrw_x _ _ (by omega), zup_o _ _ _ _ (by decide)]
  have x4 : ∀ y : Int, 0 ≤ y → y < 171 → (zup (zcp (zrw (zup (zup I3 271 0 (k : Int)) 260 2 0) F) (171 * ((k + 1 : Nat) : Int)) 0 171) 260 1 (((k + 1 : Nat) : Int) - 1)) 261 y = (zup I3 271 0 (k : Int)) 261 (171 * ((k : Int) + 1) + y) := fun y a1 a2 => by
    rw [zup_o _ _ _ _ (by decide), zcp_in _ _ _ _ (by omega), zrw_x _ _ (by omega), zup_o _ _ _ _ (by decide)]
    congr 1
    omega
  have low : ∀ o, o < 260 → (zup (zcp (zrw (zup (zup I3 271 0 (k : Int)) 260 2 0) F) (171 * ((k + 1 : Nat) : Int)) 0 171) 260 1 (((k + 1 : Nat) : Int) - 1)) o = I3 o := fun o a1 => (x1 o (by omega) (by omega)).trans (funext fun x => zup_o _ _ _ _ (by omega))
  have ev : ((k + 1 : Nat) : Int) - 1 = (k : Int) := by omega
  have km2 : Ev M_X7_undo 0 (zargs 0 (zr (some 260) :: [])) [] (h.1, (zup I3 271 0 (k : Int)), R3) (0, 0) (.inl (some (zi (k : Int))), (h.1, (zup (zcp (zrw (zup (zup I3 271 0 (k : Int)) 260 2 0) F) (171 * ((k + 1 : Nat) : Int)) 0 171) 260 1 (((k + 1 : Nat) : Int) - 1)), R3)) := by
    have km3 := km
    rw [show zi (((k + 1 : Nat) : Int) - 1) = zi (k : Int) from congrArg zi ev] at km3
    exact km3
  have hl9 := sL_undo (h := h) (h1 := (h.1, I3, R3)) h0 ho3 k5
  refine ⟨_, _, 0, (k : Int), hl9, km2, ⟨?_, fun _ => ?_⟩, ⟨σ2, k, t, L, S2, (S k).1, (S k).2.1, (S k).2.2.1, (S k).2.2.2, ⟨?_, ?_⟩, ⟨hGk.mono (by omega), fun j hj => by rw [k2 j hj]; exact (r.2.1.2 j (by omega)).mono (by omega)⟩, hb, hR3.fr rfl, ?_, ?_⟩, fun o a1 => ?_, r.2.2.2.1.1, fun o a1 => (funext fun x => zup_o _ _ _ _ (by omega)).trans (k3' o (by omega)).1⟩
  · show (zup (zcp (zrw (zup (zup I3 271 0 (k : Int)) 260 2 0) F) (171 * ((k + 1 : Nat) : Int)) 0 171) 260 1 (((k + 1 : Nat) : Int) - 1)) 260 2 = 0
    rw [zup_k _ _ _ _ (by decide), zcp_o _ _ _ _ (by decide), zrw_o _ _ (by decide)]
    exact zup_s _ _ _ _
  · show (zup (zcp (zrw (zup (zup I3 271 0 (k : Int)) 260 2 0) F) (171 * ((k + 1 : Nat) : Int)) 0 171) 260 1 (((k + 1 : Nat) : Int) - 1)) 271 0 = (k : Int)
    rw [x1 271 (by decide) (by decide)]
    exact zup_s _ _ _ _
  · exact CS.hi (h := (h.1, I3, R3)) k1 low
  · exact TS.hi (h := (h.1, I3, R3)) k1 k3 low
  · refine ⟨?_, ⟨?_, hK3.2.1.2.1, fun p hp => ?_⟩, fun j hj x a1 a2 => ?_⟩
    · show (zup (zcp (zrw (zup (zup I3 271 0 (k : Int)) 260 2 0) F) (171 * ((k + 1 : Nat) : Int)) 0 171) 260 1 (((k + 1 : Nat) : Int) - 1)) 260 1 = (k : Int)
      rw [zup_s]
      exact ev
    · exact (x2 4 (by decide) (by decide)).trans hK3.2.1.1
    · exact (congrFun (x1 262 (by decide) (by decide)) p).trans (hK3.2.1.2.2 p hp)
    · rw [k2 j hj]
      exact (x3 _ (by omega)).trans (hK3.2.2 j (by omega) x a1 a2)
  · intro x a1 a2
    exact (x4 x a1 a2).trans (hK3.2.2 k (by omega) x a1 a2)
  · exact (x1 o (by omega) (by omega)).trans ((funext fun x => zup_o _ _ _ _ (by omega)).trans (k3' o (by omega)).1)
