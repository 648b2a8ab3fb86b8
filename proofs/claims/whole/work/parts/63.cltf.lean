/-! ===== runs from states that agree, II ===== -/
theorem Agr.up {n : Nat} {F F' : zF} (e : Agr n F F') (k w v : Int) : Agr n (fup F k w v) (fup F' k w v) := fun j hj x h0 h7 => by
  unfold fup
  split
  · rfl
  · exact e j hj x h0 h7
theorem Agr.lst {n : Nat} {F F' : zF} (e : Agr n F F') {k : Nat} (hk : k < n) (d : Int) : Agr n (flast F k d) (flast F' k d) := by
  unfold flast
  rw [e k hk 5 (by decide) (by decide), e k hk 6 (by decide) (by decide)]
  exact (e.up _ _ _).up _ _ _
theorem Agr.cc {n : Nat} {F F' : zF} (e : Agr n F F') (g r : Int) : mcc n F' g r = mcc n F g r := zsum_congr fun k hk => by
  rw [e k hk 2 (by decide) (by decide), e k hk 3 (by decide) (by decide)]
theorem Agr.ad {n : Nat} {F F' : zF} (e : Agr n F F') (a t g r d : Int) : Agr (n + 1) (fadd n F a t g r d) (fadd n F' a t g r d) := fun j hj x h0 h7 => by
  by_cases c : j = n
  · subst c
    have p := fadd_n j F a t g r d
    have p' := fadd_n j F' a t g r d
    rcases (show x = 0 ∨ x = 1 ∨ x = 2 ∨ x = 3 ∨ x = 4 ∨ x = 5 ∨ x = 6 by omega) with rfl | rfl | rfl | rfl | rfl | rfl | rfl
    · rw [p.1, p'.1]
    · rw [p.2.1, p'.2.1]
    · rw [p.2.2.1, p'.2.2.1]
    · rw [p.2.2.2.1, p'.2.2.2.1]
    · rw [p.2.2.2.2.1, p'.2.2.2.2.1, e.cc]
    · rw [p.2.2.2.2.2.1, p'.2.2.2.2.2.1]
    · rw [p.2.2.2.2.2.2, p'.2.2.2.2.2.2]
  · rw [fadd_o (by omega), fadd_o (by omega)]
    exact e j (by omega) x h0 h7
theorem Agr.lv {n : Nat} {F F' : zF} (e : Agr n F F') {k : Nat} (hk : k < n) : Agr n (fleave n F k) (fleave n F' k) := by
  have e2 : Agr n (flv F k n) (flv F' k n) := fun o ho x h0 h7 => by
    unfold flv
    rw [e o ho x h0 h7, e o ho 2 (by decide) (by decide), e o ho 3 (by decide) (by decide), e o ho 4 (by decide) (by decide), e k hk 2 (by decide) (by decide), e k hk 3 (by decide) (by decide), e k hk 4 (by decide) (by decide)]
  exact e2.up _ _ _
theorem Agr.mv {n : Nat} {F F' : zF} (e : Agr n F F') {k : Nat} (hk : k < n) (g r : Int) : Agr n (fmove n F k g r) (fmove n F' k g r) := by
  unfold fmove
  rw [(e.lv hk).cc]
  exact (((e.lv hk).up _ _ _).up _ _ _).up _ _ _
theorem Agr.rem {n : Nat} {F F' : zF} (e : Agr n F F') {dep : Nat → Nat} {B : Int} (hw : WF n F dep B) {k : Nat} (hk : k < n) {G : Int → Int} {n2 : Nat} {F2 : zF} (h : IsRem n F' k G n2 F2) : IsRem n F k G n2 F2 := by
  have hx : F k 0 ≠ -1 := by
    have := hw.nn hk
    omega
  refine ⟨fun j hj => ?_, h.2.1, fun j hj hg x h0 h7 => ?_⟩
  · have b := e.bel hw hx (dep j) j hj (Nat.le_refl _)
    have a := h.1 j hj
    rw [e j hj 0 (by decide) (by decide), e k hk 0 (by decide) (by decide), b] at a
    exact a
  · rw [h.2.2 j hj hg x h0 h7]
    exact e.lv hk j hj x h0 h7
theorem Agr.chg {n : Nat} {F F' : zF} (e : Agr n F F') {dep : Nat → Nat} {B : Int} (hw : WF n F dep B) {ad dl kind a b c : Int} {n2 : Nat} {F2 : zF} {ad2 dl2 ans : Int} (h : IsChg n F ad dl kind a b c n2 F2 ad2 dl2 ans) {n2' : Nat} {F2' : zF} {ad2' dl2' ans' : Int} (h' : IsChg n F' ad dl kind a b c n2' F2' ad2' dl2' ans') : n2 = n2' ∧ ad2 = ad2' ∧ dl2 = dl2' ∧ Agr n2 F2 F2' := by
  rcases h with ⟨ek, h⟩ | ⟨ek, h⟩ | ⟨ek, h⟩ | ⟨ek, h⟩ | ⟨ek, h⟩ | ⟨ek, h⟩ | ⟨ek, h⟩ | ⟨ek, h⟩ <;> subst ek
  · obtain ⟨rfl, rfl, rfl, rfl, -⟩ := h
    obtain ⟨rfl, rfl, rfl, rfl, -⟩ := h'.k1
    exact ⟨rfl, rfl, rfl, e.ad _ _ _ _ _⟩
  · obtain ⟨rfl, rfl, rfl, rfl, -⟩ := h
    obtain ⟨rfl, rfl, rfl, rfl, -⟩ := h'.k2
    exact ⟨rfl, rfl, rfl, e.ad _ _ _ _ _⟩
  · obtain ⟨rfl, rfl, rfl, k, hk, rfl, -⟩ := h
    obtain ⟨rfl, rfl, rfl, k2, hk2, rfl, -⟩ := h'.k3
    have hkn := (zpos_num hk).1
    rw [e.zp] at hk2
    have ekk : k = k2 := by omega
    subst ekk
    exact ⟨rfl, rfl, rfl, e.lst hkn _⟩
  · obtain ⟨rfl, rfl, rfl, k, hk, rfl, -⟩ := h
    obtain ⟨rfl, rfl, rfl, k2, hk2, rfl, -⟩ := h'.k4
    have hkn := (zpos_num hk).1
    rw [e.zp] at hk2
    have ekk : k = k2 := by omega
    subst ekk
    rw [e k hkn 6 (by decide) (by decide)]
    exact ⟨rfl, rfl, rfl, e.up _ _ _⟩
  · obtain ⟨rfl, rfl, rfl, k, hk, rfl, -⟩ := h
    obtain ⟨rfl, rfl, rfl, k2, hk2, rfl, -⟩ := h'.k5
    have hkn := (zpos_num hk).1
    rw [e.zp] at hk2
    have ekk : k = k2 := by omega
    subst ekk
    rw [e k hkn 6 (by decide) (by decide)]
    exact ⟨rfl, rfl, rfl, e.up _ _ _⟩
  · obtain ⟨rfl, rfl, rfl, k, hk, rfl, -⟩ := h
    obtain ⟨rfl, rfl, rfl, k2, hk2, rfl, -⟩ := h'.k6
    have hkn := (zpos_num hk).1
    rw [e.zp] at hk2
    have ekk : k = k2 := by omega
    subst ekk
    exact ⟨rfl, rfl, rfl, e.mv hkn _ _⟩
  · obtain ⟨rfl, rfl, k, G, hk, hI, -⟩ := h
    obtain ⟨rfl, rfl, k2, G2, hk2, hI2, -⟩ := h'.k7
    have hkn := (zpos_num hk).1
    rw [e.zp] at hk2
    have ekk : k = k2 := by omega
    subst ekk
    obtain ⟨u1, -, u3⟩ := hI.agr (e.rem hw hkn hI2)
    exact ⟨u1, rfl, rfl, u3⟩
  · obtain ⟨rfl, rfl, rfl, rfl, -⟩ := h
    obtain ⟨rfl, rfl, rfl, rfl, -⟩ := h'.k8
    exact ⟨rfl, rfl, rfl, e⟩
theorem RunsF.agr {t : Int → Int} {L : Nat} : ∀ (f p q n : Nat) (F F' : zF) (ad dl : Int) (d n2 : Nat) (F2 : zF) (ad2 dl2 : Int) (d' n2' : Nat) (F2' : zF) (ad2' dl2' : Int), Gd q n F ad dl → Agr n F F' → RunsF t L f p n F ad dl d n2 F2 ad2 dl2 → RunsF t L f p n F' ad dl d' n2' F2' ad2' dl2' → d = d' ∧ n2 = n2' ∧ ad2 = ad2' ∧ dl2 = dl2' ∧ Agr n2 F2 F2' := by
  intro f
  induction f with
  | zero =>
    intro p q n F F' ad dl d n2 F2 ad2 dl2 d' n2' F2' ad2' dl2' hG e h h'
    obtain ⟨rfl, rfl, rfl, rfl, rfl⟩ := h
    obtain ⟨rfl, rfl, rfl, rfl, rfl⟩ := h'
    exact ⟨rfl, rfl, rfl, rfl, e⟩
  | succ f ih =>
    intro p q n F F' ad dl d n2 F2 ad2 dl2 d' n2' F2' ad2' dl2' hG e h h'
    have hG' := hG
    obtain ⟨⟨dep, hw⟩, -, -, -⟩ := hG'
    rcases h with ⟨hp, rfl, rfl, rfl, rfl, rfl⟩ | ⟨hp, w, hwy, hr⟩
    · rcases h' with ⟨-, rfl, rfl, rfl, rfl, rfl⟩ | ⟨hp2, -⟩
      · exact ⟨rfl, rfl, rfl, rfl, e⟩
      · exact absurd hp2 hp
    rcases h' with ⟨hp2, -⟩ | ⟨-, w2, hwy2, hr2⟩
    · exact absurd hp hp2
    have ew : w = w2 := hwy.uniq (plan_ex hw) (e.why hw hwy2)
    subst ew
    rcases hr with ⟨hw0, rfl, rfl, rfl, rfl, rfl⟩ | ⟨hw0, n1, F1, ad1, dl1, ans, hc, d1, rfl, hR⟩
    · rcases hr2 with ⟨-, rfl, rfl, rfl, rfl, rfl⟩ | ⟨hw2, -⟩
      · exact ⟨rfl, rfl, rfl, rfl, e⟩
      · exact absurd hw2 hw0
    rcases hr2 with ⟨hw2, -⟩ | ⟨-, n1', F1', ad1', dl1', ans', hc', d1', rfl, hR'⟩
    · exact absurd hw0 hw2
    subst hw0
    obtain ⟨u1, u2, u3, u4⟩ := e.chg hw hc hc'
    subst u1
    subst u2
    subst u3
    obtain ⟨v1, v2, v3, v4, v5⟩ := ih _ (q + 1) n1 F1 F1' ad1 dl1 d1 n2 F2 ad2 dl2 d1' n2' F2' ad2' dl2' (hG.step hwy hc) u4 hR hR'
    exact ⟨by omega, v2, v3, v4, v5⟩
theorem natP_2 (t : Int → Int) (L : Nat) {c q : Nat} (hc : 0 < c) (h : nokF t L c q ≠ 0) : q + 2 ≤ natP t L c q := by
  cases c with
  | zero => omega
  | succ c =>
    have eP : natP t L (c + 1) q = if nmOk t L q then natP t L c (nmAt t L q) else nmAt t L q := rfl
    have eK : nokF t L (c + 1) q = if nmOk t L q then nokF t L c (nmAt t L q) else 0 := rfl
    by_cases ok : nmOk t L q
    · rw [if_pos ok] at eP
      have g := (natP_ge t L c (nmAt t L q)).1
      have eA : nmAt t L q = sk t L q + ndF t L 3 (sk t L q) := if_pos ok.1
      have s1 : sk t L q = sk t L (q + 1) := rn_in (by decide) (by have := ok.1; omega)
      have s2 := (sk_ge t L (q + 1)).1
      have s3 := ok.2.1
      omega
    · rw [if_neg ok] at eK
      exact absurd eK h
theorem cmdAt_7 {t : Int → Int} {L p : Nat} (h : cmdK t L p ≠ 0) : p + 7 ≤ cmdAt t L p := by
  have hk0 : ¬ kd t L p = 0 := fun g => h (if_pos g)
  have eA : cmdAt t L p = if nokF t L (cN t L p) (lt t L p) = 0 then cE t L p else if hr t L (sk t L (cE t L p)) = 59 then sk t L (cE t L p) + 1 else sk t L (cE t L p) := if_neg hk0
  have eK : cmdK t L p = if nokF t L (cN t L p) (lt t L p) = 0 then 0 else if hr t L (sk t L (cE t L p)) = 59 then kd t L p else 0 := if_neg hk0
  have hn0 : ¬ nokF t L (cN t L p) (lt t L p) = 0 := fun g => by
    rw [if_pos g] at eK
    exact h eK
  rw [if_neg hn0] at eA eK
  have h59 : hr t L (sk t L (cE t L p)) = 59 := Classical.byContradiction fun g => by
    rw [if_neg g] at eK
    exact h eK
  rw [if_pos h59] at eA
  have hkr : 0 ≤ kd t L p ∧ kd t L p ≤ 8 := kindW_rng _
  have hi : (kd t L p - 1).toNat < 8 := by omega
  have hw := (kd_iff (t := t) (L := L) (p := p) hi).mp (by omega)
  have hz := zbl_rng _ hi
  have hnr := nOf_rng (kd t L p)
  have hcN : 0 < cN t L p := by
    unfold cN
    omega
  have g1 := natP_2 t L hcN hn0
  have g2 := (sk_ge t L (cE t L p)).1
  have g3 : cE t L p = natP t L (cN t L p) (lt t L p) := rfl
  have g4 := hw.1
  omega
theorem RunsF.short {t : Int → Int} {L : Nat} : ∀ (f p n : Nat) (F : zF) (ad dl : Int) (d n2 : Nat) (F2 : zF) (ad2 dl2 : Int), p ≤ L → RunsF t L f p n F ad dl d n2 F2 ad2 dl2 → 7 * d ≤ L - p := by
  intro f
  induction f with
  | zero =>
    intro p n F ad dl d n2 F2 ad2 dl2 hp h
    obtain ⟨rfl, -⟩ := h
    omega
  | succ f ih =>
    intro p n F ad dl d n2 F2 ad2 dl2 hp h
    rcases h with ⟨-, rfl, -⟩ | ⟨hpL, w, hwy, ⟨-, rfl, -⟩ | ⟨-, n1, F1, ad1, dl1, ans, hc, d1, rfl, hR⟩⟩
    · omega
    · omega
    · have hk : cmdK t L p ≠ 0 := by
        rcases hwy with ⟨e, -⟩ | ⟨e, -⟩ | ⟨e, -⟩ | ⟨e, -⟩ | ⟨e, -⟩ | ⟨e, -⟩ | ⟨e, -⟩ | ⟨e, -⟩ <;> rw [e] <;> decide
      have g1 := cmdAt_7 hk
      have g2 := (cmdAt_ge t L p).2.1 hp
      have g3 := sk_ge t L (cmdAt t L p)
      have k := ih _ n1 F1 ad1 dl1 d1 n2 F2 ad2 dl2 (g3.2 g2) hR
      have g4 := g3.2 g2
      omega
