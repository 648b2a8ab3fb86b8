/-! ===== runs from states that agree ===== -/
theorem Agr.bel {n : Nat} {F F' : zF} (e : Agr n F F') {dep : Nat → Nat} {B : Int} (hw : WF n F dep B) {x : Int} (hx : x ≠ -1) : ∀ (m j : Nat), j < n → dep j ≤ m → (Bel n F' (F j 0) x ↔ Bel n F (F j 0) x) := by
  intro m
  induction m with
  | zero =>
    intro j hj hd
    by_cases h1 : F j 0 = x
    · rw [h1]
      exact ⟨fun _ => Bel.self _ _ _, fun _ => Bel.self _ _ _⟩
    have h2 : F j 0 ≠ -1 := by
      have := hw.nn hj
      omega
    rw [Bel.up h1 h2, Bel.up h1 h2, e.zp, (hw.chn 0).pos hj, e j hj 2 (by decide) (by decide)]
    by_cases j0 : j = 0
    · subst j0
      have e2 : F ((0 : Nat) : Int) 2 = -1 := hw.2.1.2.2.1
      rw [e2]
      exact ⟨fun g => absurd g (Bel.none hx), fun g => absurd g (Bel.none hx)⟩
    · obtain ⟨p, hp, e2, -, e3⟩ := hw.par_of (x := j) (by omega) hj
      omega
  | succ m ih =>
    intro j hj hd
    by_cases h1 : F j 0 = x
    · rw [h1]
      exact ⟨fun _ => Bel.self _ _ _, fun _ => Bel.self _ _ _⟩
    have h2 : F j 0 ≠ -1 := by
      have := hw.nn hj
      omega
    rw [Bel.up h1 h2, Bel.up h1 h2, e.zp, (hw.chn 0).pos hj, e j hj 2 (by decide) (by decide)]
    by_cases j0 : j = 0
    · subst j0
      have e2 : F ((0 : Nat) : Int) 2 = -1 := hw.2.1.2.2.1
      rw [e2]
      exact ⟨fun g => absurd g (Bel.none hx), fun g => absurd g (Bel.none hx)⟩
    · obtain ⟨p, hp, e2, -, e3⟩ := hw.par_of (x := j) (by omega) hj
      rw [e2]
      exact ih p hp (by omega)
theorem Agr.wT {n : Nat} {F F' : zF} (e : Agr n F F') (x b : Int) : wTask n F' x b = wTask n F x b := by
  unfold wTask
  rw [e.zp]
  by_cases hz : zpos n F x = -1
  · rw [if_pos hz, if_pos hz]
  · obtain ⟨k, hk, hkn, -⟩ := zpos_ok hz
    rw [hk, e k hkn 1 (by decide) (by decide)]
theorem Agr.move {n : Nat} {F F' : zF} (e : Agr n F F') {dep : Nat → Nat} {B : Int} (hw : WF n F dep B) {a b c w : Int} (h : IsWMove n F' a b c w) : IsWMove n F a b c w := by
  unfold IsWMove at h
  rw [e.zp, e.zp] at h
  rcases h with h | ⟨h1, h2, h⟩
  · exact Or.inl h
  refine Or.inr ⟨h1, h2, ?_⟩
  rcases h with h | ⟨h3, v, hv, ev⟩
  · exact Or.inl h
  refine Or.inr ⟨h3, v, ?_, ev⟩
  obtain ⟨k, hk, hkn, hk0⟩ := zpos_ok h1
  obtain ⟨p, hp, hpn, hp0⟩ := zpos_ok h2
  have hx : a ≠ -1 := by
    have := hw.nn hkn
    omega
  have hb : Bel n F' b a ↔ Bel n F b a := by
    have := e.bel hw hx (dep p) p hpn (Nat.le_refl _)
    rw [hp0] at this
    exact this
  unfold IsReason at hv ⊢
  rw [e.zp, hp, e p hpn 1 (by decide) (by decide), hb] at hv
  rw [hp]
  exact hv
theorem Agr.why {n : Nat} {F F' : zF} (e : Agr n F F') {dep : Nat → Nat} {B : Int} (hw : WF n F dep B) {kind a b c w : Int} (h : IsWhy n F' kind a b c w) : IsWhy n F kind a b c w := by
  have hA : ∀ r d : Int, wAdd n F' a r d = wAdd n F a r d := fun r d => by
    unfold wAdd
    rw [e.zp]
    by_cases hz : zpos n F a = -1
    · rw [if_pos hz, if_pos hz]
    · obtain ⟨k, hk, hkn, -⟩ := zpos_ok hz
      rw [hk, e k hkn 1 (by decide) (by decide)]
  rcases h with ⟨ek, h⟩ | ⟨ek, h⟩ | ⟨ek, h⟩ | ⟨ek, h⟩ | ⟨ek, h⟩ | ⟨ek, h⟩ | ⟨ek, h⟩ | ⟨ek, h⟩
  · exact Or.inl ⟨ek, by rw [h, hA]⟩
  · exact Or.inr (Or.inl ⟨ek, by rw [h, hA]⟩)
  · exact Or.inr (Or.inr (Or.inl ⟨ek, by rw [h, e.wT]⟩))
  · refine Or.inr (Or.inr (Or.inr (Or.inl ⟨ek, fun len st sl dp hl ht => ?_⟩)))
    rw [h len st sl dp (e.len hl) (e.tm ht)]
    unfold wBor
    rw [e.wT, e.zp]
  · refine Or.inr (Or.inr (Or.inr (Or.inr (Or.inl ⟨ek, ?_⟩))))
    rw [h]
    unfold wBck
    rw [e.wT, e.zp]
    by_cases hz : wTask n F a (if 1 ≤ b ∧ b ≤ 99 then 1 else 0) ≠ 0
    · rw [if_pos hz, if_pos hz]
    · rw [if_neg hz, if_neg hz]
      obtain ⟨k, hkn, hk, -, -⟩ := wTask_pos (Classical.byContradiction hz)
      rw [hk, e k hkn 6 (by decide) (by decide)]
  · exact Or.inr (Or.inr (Or.inr (Or.inr (Or.inr (Or.inl ⟨ek, e.move hw h⟩)))))
  · refine Or.inr (Or.inr (Or.inr (Or.inr (Or.inr (Or.inr (Or.inl ⟨ek, ?_⟩))))))
    rw [h]
    unfold wRem
    rw [e.zp]
  · exact Or.inr (Or.inr (Or.inr (Or.inr (Or.inr (Or.inr (Or.inr ⟨ek, h⟩))))))
theorem IsWhy.uniq {n : Nat} {F : zF} {kind a b c w w' : Int} (hl : ∃ len st sl dp : Int → Int, IsLen n F len ∧ IsTm n F len st sl dp) (h : IsWhy n F kind a b c w) (h' : IsWhy n F kind a b c w') : w = w' := by
  obtain ⟨len, st, sl, dp, h1, h2⟩ := hl
  rcases h with ⟨e1, h⟩ | ⟨e1, h⟩ | ⟨e1, h⟩ | ⟨e1, h⟩ | ⟨e1, h⟩ | ⟨e1, h⟩ | ⟨e1, h⟩ | ⟨e1, h⟩
  · have k := h'
    subst e1
    exact h.trans (h'.k1).symm
  · subst e1
    exact h.trans (h'.k2).symm
  · subst e1
    exact h.trans (h'.k3).symm
  · subst e1
    exact (h len st sl dp h1 h2).trans (h'.k4 len st sl dp h1 h2).symm
  · subst e1
    exact h.trans (h'.k5).symm
  · subst e1
    exact h.uniq h'.k6
  · subst e1
    exact h.trans (h'.k7).symm
  · subst e1
    exact h.trans (h'.k8).symm
