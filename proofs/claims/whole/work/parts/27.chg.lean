/-! why a change is refused, what it makes; the state stays good -/
def Gd (q n : Nat) (F : zF) (ad dl : Int) : Prop := (∃ dep, WF n F dep (99 * q)) ∧ (∀ k : Nat, k < n → F k 0 < ad) ∧ (1 ≤ ad ∧ ad ≤ q + 1) ∧ (0 ≤ dl ∧ dl ≤ 999)
def IsWhy (n : Nat) (F : zF) (kind a b c w : Int) : Prop :=
  (kind = 1 ∧ w = wAdd n F a b 0) ∨ (kind = 2 ∧ w = wAdd n F a b c) ∨ (kind = 3 ∧ w = wTask n F a (if 0 ≤ b ∧ b ≤ 60 then 1 else 0)) ∨
  (kind = 4 ∧ ∀ len st sl dp : Int → Int, IsLen n F len → IsTm n F len st sl dp → w = wBor n F sl a b) ∨ (kind = 5 ∧ w = wBck n F a b) ∨
  (kind = 6 ∧ IsWMove n F a b c w) ∨ (kind = 7 ∧ w = wRem n F a) ∨ (kind = 8 ∧ w = wUnt a)
def IsRem (n : Nat) (F : zF) (k : Nat) (G : Int → Int) (n' : Nat) (F' : zF) : Prop := (∀ j : Nat, j < n → G j = 1 ∧ Bel n F (F j 0) (F k 0) ∨ G j = 0 ∧ ¬ Bel n F (F j 0) (F k 0)) ∧ (n' : Int) = n - gcnt G n ∧ ∀ j : Nat, j < n → G j ≠ 1 → ∀ w : Int, 0 ≤ w → w < 7 → F' ((j : Int) - gcnt G j) w = fleave n F k j w
def IsChg (n : Nat) (F : zF) (ad dl : Int) (kind a b c : Int) (n' : Nat) (F' : zF) (ad' dl' ans : Int) : Prop :=
  (kind = 1 ∧ n' = n + 1 ∧ F' = fadd n F ad 0 a b 0 ∧ ad' = ad + 1 ∧ dl' = dl ∧ ans = ad) ∨
  (kind = 2 ∧ n' = n + 1 ∧ F' = fadd n F ad 1 a b c ∧ ad' = ad + 1 ∧ dl' = dl ∧ ans = ad) ∨
  (kind = 3 ∧ n' = n ∧ ad' = ad ∧ dl' = dl ∧ ∃ k : Nat, zpos n F a = k ∧ F' = flast F k b ∧ ∃ len st sl dp : Int → Int, IsLen n F' len ∧ IsTm n F' len st sl dp ∧ ans = len 0) ∨
  (kind = 4 ∧ n' = n ∧ ad' = ad ∧ dl' = dl ∧ ∃ k : Nat, zpos n F a = k ∧ F' = fup F k 6 (F k 6 + b) ∧ ans = F k 6 + b) ∨
  (kind = 5 ∧ n' = n ∧ ad' = ad ∧ dl' = dl ∧ ∃ k : Nat, zpos n F a = k ∧ F' = fup F k 6 (F k 6 + -b) ∧ ans = F k 6 + -b) ∨
  (kind = 6 ∧ n' = n ∧ ad' = ad ∧ dl' = dl ∧ ∃ k : Nat, zpos n F a = k ∧ F' = fmove n F k b c ∧ ans = mcc n (fleave n F k) b c) ∨
  (kind = 7 ∧ ad' = ad ∧ dl' = dl ∧ ∃ (k : Nat) (G : Int → Int), zpos n F a = k ∧ IsRem n F k G n' F' ∧ ans = gcnt G n) ∨
  (kind = 8 ∧ n' = n ∧ F' = F ∧ ad' = ad ∧ dl' = a ∧ ∃ len st sl dp : Int → Int, IsLen n F len ∧ IsTm n F len st sl dp ∧ ans = mlate (len 0) a)
theorem WF.mono {n : Nat} {f : zF} {dep : Nat → Nat} {B B' : Int} (hB : B ≤ B') (h : WF n f dep B) : WF n f dep B' :=
  ⟨h.1, h.2.1, h.2.2.1, fun k hk => by have := h.2.2.2.1 k hk; exact ⟨this.1, this.2.1, by omega, this.2.2.2⟩, h.2.2.2.2⟩
theorem zpos_ok {n : Nat} {f : zF} {x : Int} (h : zpos n f x ≠ -1) : ∃ k : Nat, zpos n f x = k ∧ k < n ∧ f k 0 = x := by
  have hq : -1 ≤ zpos n f x ∧ zpos n f x < n := zfnd_rng (fun j => f j 0) x n
  have e : zpos n f x = ((zpos n f x).toNat : Int) := by omega
  exact ⟨(zpos n f x).toNat, e, zpos_num e⟩
theorem wAdd_pos {n : Nat} {f : zF} {g r d : Int} (h : wAdd n f g r d = 0) : ∃ p : Nat, zpos n f g = p ∧ p < n ∧ f p 0 = g ∧ (0 ≤ r ∧ r ≤ 3) ∧ (0 ≤ d ∧ d ≤ 60) ∧ f p 1 ≠ 1 ∧ n ≠ 24 := by
  unfold wAdd at h
  by_cases h1 : zpos n f g = -1
  · rw [if_pos h1] at h; exact absurd h (by decide)
  · rw [if_neg h1] at h
    obtain ⟨p, e, hp, hg⟩ := zpos_ok h1
    by_cases h2 : (0 ≤ r ∧ r ≤ 3) ∧ (0 ≤ d ∧ d ≤ 60)
    · rw [if_neg (fun q => q h2)] at h
      by_cases h3 : f (zpos n f g) 1 = 1 ∨ n = 24
      · rw [if_pos h3] at h; exact absurd h (by decide)
      · rw [e] at h3
        exact ⟨p, e, hp, hg, h2.1, h2.2, fun q => h3 (Or.inl q), fun q => h3 (Or.inr q)⟩
    · rw [if_pos h2] at h; exact absurd h (by decide)
theorem wBor_pos {n : Nat} {f : zF} {sl : Int → Int} {x a : Int} (h : wBor n f sl x a = 0) : ∃ k : Nat, k < n ∧ zpos n f x = k ∧ f k 1 = 1 ∧ (1 ≤ a ∧ a ≤ 99) ∧ a ≤ sl k := by
  unfold wBor at h
  by_cases h1 : wTask n f x (if 1 ≤ a ∧ a ≤ 99 then 1 else 0) ≠ 0
  · rw [if_pos h1] at h; exact absurd h h1
  · rw [if_neg h1] at h
    have h1' : wTask n f x (if 1 ≤ a ∧ a ≤ 99 then 1 else 0) = 0 := Classical.byContradiction h1
    obtain ⟨k, hk, e, ht, hb⟩ := wTask_pos h1'
    have ha : 1 ≤ a ∧ a ≤ 99 := Classical.byContradiction fun g => hb (if_neg g)
    rw [e] at h
    by_cases h2 : sl k < a
    · rw [if_pos h2] at h; exact absurd h (by decide)
    · exact ⟨k, hk, e, ht, ha, by omega⟩
theorem wBck_pos {n : Nat} {f : zF} {x a : Int} (h : wBck n f x a = 0) : ∃ k : Nat, k < n ∧ zpos n f x = k ∧ f k 1 = 1 ∧ (1 ≤ a ∧ a ≤ 99) ∧ a ≤ f k 6 := by
  unfold wBck at h
  by_cases h1 : wTask n f x (if 1 ≤ a ∧ a ≤ 99 then 1 else 0) ≠ 0
  · rw [if_pos h1] at h; exact absurd h h1
  · rw [if_neg h1] at h
    have h1' : wTask n f x (if 1 ≤ a ∧ a ≤ 99 then 1 else 0) = 0 := Classical.byContradiction h1
    obtain ⟨k, hk, e, ht, hb⟩ := wTask_pos h1'
    have ha : 1 ≤ a ∧ a ≤ 99 := Classical.byContradiction fun g => hb (if_neg g)
    rw [e] at h
    by_cases h2 : f k 6 < a
    · rw [if_pos h2] at h; exact absurd h (by decide)
    · exact ⟨k, hk, e, ht, ha, by omega⟩
theorem IsWMove_pos {n : Nat} {f : zF} {x g r : Int} (h : IsWMove n f x g r 0) : ∃ k p : Nat, (zpos n f x = k ∧ k < n ∧ f k 0 = x ∧ x ≠ 0) ∧ (zpos n f g = p ∧ p < n ∧ f p 0 = g) ∧ (0 ≤ r ∧ r ≤ 3) ∧ f p 1 ≠ 1 ∧ ¬ Bel n f g x := by
  rcases h with ⟨-, e⟩ | ⟨h1, h2, h3⟩
  · exact absurd e (by decide)
  · obtain ⟨k, e1, k1, k2⟩ := zpos_ok h1
    obtain ⟨p, e2, p1, p2⟩ := zpos_ok h2
    rcases h3 with ⟨-, e⟩ | ⟨hr, v, hv, e⟩
    · exact absurd e (by decide)
    · have hv0 : ¬ 0 < v := fun q => by rw [if_pos q] at e; exact absurd e (by decide)
      rw [IsReason, e2] at hv
      rcases hv with ⟨q, -⟩ | ⟨q, -⟩ | ⟨q, -⟩ | ⟨-, q1, q2, q3⟩
      · omega
      · omega
      · omega
      · exact ⟨k, p, ⟨e1, k1, k2, q1⟩, ⟨e2, p1, p2⟩, hr, q2, q3⟩
theorem wRem_pos {n : Nat} {f : zF} {x : Int} (h : wRem n f x = 0) : ∃ k : Nat, zpos n f x = k ∧ k < n ∧ f k 0 = x ∧ x ≠ 0 := by
  unfold wRem at h
  by_cases h1 : zpos n f x = -1
  · rw [if_pos h1] at h; exact absurd h (by decide)
  · rw [if_neg h1] at h
    obtain ⟨k, e1, k1, k2⟩ := zpos_ok h1
    refine ⟨k, e1, k1, k2, fun q => ?_⟩
    rw [if_pos q] at h
    exact absurd h (by decide)
theorem wUnt_pos {d : Int} (h : wUnt d = 0) : 0 ≤ d ∧ d ≤ 999 := by
  unfold wUnt at h
  exact Classical.byContradiction fun g => by rw [if_neg g] at h; exact absurd h (by decide)
theorem Gd.step {q n : Nat} {F : zF} {ad dl kind a b c : Int} (h : Gd q n F ad dl) (hw : IsWhy n F kind a b c 0) {n' : Nat} {F' : zF} {ad' dl' ans : Int} (hc : IsChg n F ad dl kind a b c n' F' ad' dl' ans) : Gd (q + 1) n' F' ad' dl' := by
  obtain ⟨⟨dep, hW⟩, hN, hA, hD⟩ := h
  have eq1 : (99 : Int) * ((q + 1 : Nat) : Int) = 99 * q + 99 := by omega
  have hB : (99 : Int) * q ≤ 99 * ((q + 1 : Nat) : Int) := by omega
  have hA' : ad ≤ ((q + 1 : Nat) : Int) + 1 := by omega
  have addcase : ∀ t d : Int, wAdd n F a b d = 0 → (t = 0 ∨ t = 1) → (t = 0 → d = 0) → Gd (q + 1) (n + 1) (fadd n F ad t a b d) (ad + 1) dl := fun t d hw ht hd => by
    obtain ⟨p, e, hp, hg, hr, hdd, hp1, hn⟩ := wAdd_pos hw
    have hp0 : F p 1 = 0 := by rcases (hW.2.2.2.1 p hp).1 with g | g; exact g; exact absurd g hp1
    have hn24 := hW.1.2
    refine ⟨⟨_, hW.add (by omega) hB (by omega) hN ht hp hg hp0 hr hdd hd⟩, fun k hk => ?_, by omega, hD⟩
    by_cases c : k = n
    · subst c; rw [(fadd_n k F ad t a b d).1]; omega
    · rw [fadd_o (by omega)]; have := hN k (by omega); omega
  have same : ∀ (k : Nat) (F2 : zF), (∃ dep', WF n F2 dep' (99 * ((q + 1 : Nat) : Int))) → (∀ o : Int, F2 o 0 = F o 0) → Gd (q + 1) n F2 ad dl := fun k F2 h1 h2 => ⟨h1, fun j hj => by rw [h2]; exact hN j hj, by omega, hD⟩
  rcases hc with ⟨ek, rfl, rfl, rfl, rfl, -⟩ | ⟨ek, rfl, rfl, rfl, rfl, -⟩ | ⟨ek, rfl, rfl, rfl, k, hk, rfl, -⟩ | ⟨ek, rfl, rfl, rfl, k, hk, rfl, -⟩ | ⟨ek, rfl, rfl, rfl, k, hk, rfl, -⟩ | ⟨ek, rfl, rfl, rfl, k, hk, rfl, -⟩ | ⟨ek, rfl, rfl, k, G, hk, ⟨g1, g2, g3⟩, -⟩ | ⟨ek, rfl, rfl, rfl, rfl, -⟩ <;> subst ek <;> rcases hw with ⟨e, hw⟩ | ⟨e, hw⟩ | ⟨e, hw⟩ | ⟨e, hw⟩ | ⟨e, hw⟩ | ⟨e, hw⟩ | ⟨e, hw⟩ | ⟨e, hw⟩ <;> first | exact absurd e (by decide) | skip
  · exact addcase 0 0 hw.symm (Or.inl rfl) (fun _ => rfl)
  · exact addcase 1 c hw.symm (Or.inr rfl) (fun g => absurd g (by decide))
  · obtain ⟨j, hj, ej, ht, hb⟩ := wTask_pos hw.symm
    have : j = k := by omega
    subst this
    have hd : 0 ≤ b ∧ b ≤ 60 := Classical.byContradiction fun g => hb (if_neg g)
    refine same j _ ⟨_, hW.lst hj ht hB hd⟩ (fun o => ?_)
    exact (if_neg (fun g => absurd g.2 (by decide))).trans (if_neg (fun g => absurd g.2 (by decide)))
  · obtain ⟨len, st, sl, dp, hl, ht⟩ := plan_ex hW
    obtain ⟨j, hj, ej, htk, ha, hs⟩ := wBor_pos (hw len st sl dp hl ht).symm
    have : j = k := by omega
    subst this
    have b6 := (hW.2.2.2.1 j hj).2.2.1
    exact same j _ ⟨_, hW.rsv hj htk hB (by omega)⟩ (fun o => if_neg (fun g => absurd g.2 (by decide)))
  · obtain ⟨j, hj, ej, htk, ha, hs⟩ := wBck_pos hw.symm
    have : j = k := by omega
    subst this
    have b6 := (hW.2.2.2.1 j hj).2.2.1
    exact same j _ ⟨_, hW.rsv hj htk hB (by omega)⟩ (fun o => if_neg (fun g => absurd g.2 (by decide)))
  · obtain ⟨j, p, ⟨e1, j1, j2, j3⟩, ⟨e2, p1, p2⟩, hr, hp1, hnb⟩ := IsWMove_pos hw
    have : j = k := by omega
    subst this
    have hj0 : j ≠ 0 := fun e => by subst e; exact j3 (j2.symm.trans hW.2.1.1)
    have hp0 : F p 1 = 0 := by rcases (hW.2.2.2.1 p p1).1 with g | g; exact g; exact absurd g hp1
    obtain ⟨dep', hW'⟩ := hW.mov (by omega) j1 p1 p2 hp0 (by rw [p2, j2]; exact hnb) hr
    refine same j _ ⟨dep', hW'.mono hB⟩ (fun o => ?_)
    by_cases c : o = j
    · rw [c]; exact (fmove_k _ F j b _).2.2.2 0 (by decide) (by decide) (by decide)
    · rw [fmove_o c]; exact flv_ne F j _ o (by decide)
  · obtain ⟨j, e1, j1, j2, j3⟩ := wRem_pos hw.symm
    have : j = k := by omega
    subst this
    have hj0 : j ≠ 0 := fun e => by subst e; exact j3 (j2.symm.trans hW.2.1.1)
    obtain ⟨dep', hW'⟩ := hW.rem (by omega) j1 g1 g3 g2
    refine ⟨⟨dep', hW'.mono hB⟩, fun i hi => ?_, by omega, hD⟩
    obtain ⟨sel, hs⟩ := gsel G n
    have a9 := hs i (by omega)
    have e9 := g3 (sel i) a9.1 a9.2.1 0 (by omega) (by omega)
    rw [a9.2.2] at e9
    rw [e9, fleave_ne _ _ _ _ (by decide) (by decide)]
    exact hN _ a9.1
  · exact ⟨⟨dep, hW.mono hB⟩, hN, by omega, wUnt_pos hw.symm⟩
theorem wBor_congr {n : Nat} {f : zF} {sl sl' : Int → Int} (h : ∀ k : Nat, k < n → sl k = sl' k) (x a : Int) : wBor n f sl x a = wBor n f sl' x a := by
  unfold wBor
  by_cases h1 : wTask n f x (if 1 ≤ a ∧ a ≤ 99 then 1 else 0) ≠ 0
  · rw [if_pos h1, if_pos h1]
  · rw [if_neg h1, if_neg h1]
    obtain ⟨k, hk, e, -, -⟩ := wTask_pos (Classical.byContradiction h1)
    rw [e, h k hk]
/-- what numbers a change looks at -/
theorem IsWhy.args {n : Nat} {F : zF} {kind a b c a' b' c' w : Int} (h1 : a = a') (h2 : 1 < nOf kind → b = b') (h3 : 2 < nOf kind → c = c') (h : IsWhy n F kind a b c w) : IsWhy n F kind a' b' c' w := by
  subst h1
  rcases h with ⟨e, h⟩ | ⟨e, h⟩ | ⟨e, h⟩ | ⟨e, h⟩ | ⟨e, h⟩ | ⟨e, h⟩ | ⟨e, h⟩ | ⟨e, h⟩ <;> subst e
  · rw [← h2 (by decide)]; exact Or.inl ⟨rfl, h⟩
  · rw [← h2 (by decide), ← h3 (by decide)]; exact Or.inr (Or.inl ⟨rfl, h⟩)
  · rw [← h2 (by decide)]; exact Or.inr (Or.inr (Or.inl ⟨rfl, h⟩))
  · rw [← h2 (by decide)]; exact Or.inr (Or.inr (Or.inr (Or.inl ⟨rfl, h⟩)))
  · rw [← h2 (by decide)]; exact Or.inr (Or.inr (Or.inr (Or.inr (Or.inl ⟨rfl, h⟩))))
  · rw [← h2 (by decide), ← h3 (by decide)]; exact Or.inr (Or.inr (Or.inr (Or.inr (Or.inr (Or.inl ⟨rfl, h⟩)))))
  · exact Or.inr (Or.inr (Or.inr (Or.inr (Or.inr (Or.inr (Or.inl ⟨rfl, h⟩))))))
  · exact Or.inr (Or.inr (Or.inr (Or.inr (Or.inr (Or.inr (Or.inr ⟨rfl, h⟩))))))
theorem IsChg.args {n : Nat} {F : zF} {ad dl kind a b c a' b' c' : Int} (h1 : a = a') (h2 : 1 < nOf kind → b = b') (h3 : 2 < nOf kind → c = c') {n' : Nat} {F' : zF} {ad' dl' ans : Int} (h : IsChg n F ad dl kind a b c n' F' ad' dl' ans) : IsChg n F ad dl kind a' b' c' n' F' ad' dl' ans := by
  subst h1
  rcases h with ⟨e, h⟩ | ⟨e, h⟩ | ⟨e, h⟩ | ⟨e, h⟩ | ⟨e, h⟩ | ⟨e, h⟩ | ⟨e, h⟩ | ⟨e, h⟩ <;> subst e
  · rw [← h2 (by decide)]; exact Or.inl ⟨rfl, h⟩
  · rw [← h2 (by decide), ← h3 (by decide)]; exact Or.inr (Or.inl ⟨rfl, h⟩)
  · rw [← h2 (by decide)]; exact Or.inr (Or.inr (Or.inl ⟨rfl, h⟩))
  · rw [← h2 (by decide)]; exact Or.inr (Or.inr (Or.inr (Or.inl ⟨rfl, h⟩)))
  · rw [← h2 (by decide)]; exact Or.inr (Or.inr (Or.inr (Or.inr (Or.inl ⟨rfl, h⟩))))
  · rw [← h2 (by decide), ← h3 (by decide)]; exact Or.inr (Or.inr (Or.inr (Or.inr (Or.inr (Or.inl ⟨rfl, h⟩)))))
  · exact Or.inr (Or.inr (Or.inr (Or.inr (Or.inr (Or.inr (Or.inl ⟨rfl, h⟩))))))
  · exact Or.inr (Or.inr (Or.inr (Or.inr (Or.inr (Or.inr (Or.inr ⟨rfl, h⟩))))))
/-- the commands of a text from a place on, carried out up to the first that is refused -/
def RunsF (t : Int → Int) (L : Nat) : Nat → Nat → Nat → zF → Int → Int → Nat → Nat → zF → Int → Int → Prop
  | 0, _, n, F, ad, dl, d, n', F', ad', dl' => d = 0 ∧ n' = n ∧ F' = F ∧ ad' = ad ∧ dl' = dl
  | f + 1, p, n, F, ad, dl, d, n', F', ad', dl' => (¬ p < L ∧ d = 0 ∧ n' = n ∧ F' = F ∧ ad' = ad ∧ dl' = dl) ∨ (p < L ∧ ∃ w, IsWhy n F (cmdK t L p) (nvF t L 0 (lt t L p)) (nvF t L 1 (lt t L p)) (nvF t L 2 (lt t L p)) w ∧ ((w ≠ 0 ∧ d = 0 ∧ n' = n ∧ F' = F ∧ ad' = ad ∧ dl' = dl) ∨ (w = 0 ∧ ∃ (n1 : Nat) (F1 : zF) (ad1 dl1 ans : Int), IsChg n F ad dl (cmdK t L p) (nvF t L 0 (lt t L p)) (nvF t L 1 (lt t L p)) (nvF t L 2 (lt t L p)) n1 F1 ad1 dl1 ans ∧ ∃ d1, d = d1 + 1 ∧ RunsF t L f (sk t L (cmdAt t L p)) n1 F1 ad1 dl1 d1 n' F' ad' dl')))
theorem RunsF.good {t : Int → Int} {L : Nat} : ∀ (f p q n : Nat) (F : zF) (ad dl : Int) (d n' : Nat) (F' : zF) (ad' dl' : Int), Gd q n F ad dl → p ≤ L → RunsF t L f p n F ad dl d n' F' ad' dl' → Gd (q + d) n' F' ad' dl' ∧ d ≤ L - p := by
  intro f
  induction f with
  | zero =>
    intro p q n F ad dl d n' F' ad' dl' hG hp h
    obtain ⟨rfl, rfl, rfl, rfl, rfl⟩ := h
    exact ⟨hG, Nat.zero_le _⟩
  | succ f ih =>
    intro p q n F ad dl d n' F' ad' dl' hG hp h
    rcases h with ⟨-, rfl, rfl, rfl, rfl, rfl⟩ | ⟨hpL, w, hw, ⟨-, rfl, rfl, rfl, rfl, rfl⟩ | ⟨e, n1, F1, ad1, dl1, ans, hc, d1, rfl, hR⟩⟩
    · exact ⟨hG, Nat.zero_le _⟩
    · exact ⟨hG, Nat.zero_le _⟩
    · subst e
      have hk : cmdK t L p ≠ 0 := by
        rcases hw with ⟨e, -⟩ | ⟨e, -⟩ | ⟨e, -⟩ | ⟨e, -⟩ | ⟨e, -⟩ | ⟨e, -⟩ | ⟨e, -⟩ | ⟨e, -⟩ <;> rw [e] <;> decide
      have g1 := cmdAt_ge t L p
      have g2 := sk_ge t L (cmdAt t L p)
      have a := ih _ (q + 1) n1 F1 ad1 dl1 d1 n' F' ad' dl' (hG.step hw hc) (g2.2 (g1.2.1 hp)) hR
      have g3 := g1.2.2 hk
      have g4 := g2.2 (g1.2.1 hp)
      rw [show q + (d1 + 1) = q + 1 + d1 by omega]
      exact ⟨a.1, by omega⟩
