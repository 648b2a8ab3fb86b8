/-! ===== the class: nodes dropped ===== -/
/-- the c kept ones of the first m of the list -/
def Kp (G : Int → Int) (q : Nat → Nat) (m c : Nat) (sel : Nat → Nat) : Prop := (∀ j, j < c → sel j < m ∧ G (q (sel j)) ≠ 1) ∧ (∀ a b, a < b → b < c → sel a < sel b) ∧ (∀ l, l < m → G (q l) ≠ 1 → ∃ j, j < c ∧ sel j = l) ∧ (c : Int) = m - zsq q (fun x => if G x = 1 then 1 else 0) m
theorem Kp.none (G : Int → Int) (q sel : Nat → Nat) : Kp G q 0 0 sel := ⟨fun j hj => by omega, fun a b _ hb => by omega, fun l hl => by omega, rfl⟩
theorem Kp.skip {G : Int → Int} {q : Nat → Nat} {m c : Nat} {sel : Nat → Nat} (h : Kp G q m c sel) (hg : G (q m) = 1) : Kp G q (m + 1) c sel := by
  refine ⟨fun j hj => ⟨by have := (h.1 j hj).1; omega, (h.1 j hj).2⟩, h.2.1, fun l hl hn => ?_, ?_⟩
  · by_cases e : l = m
    · subst e; exact absurd hg hn
    · exact h.2.2.1 l (by omega) hn
  · have e : zsq q (fun x => if G x = 1 then 1 else 0) (m + 1) = zsq q (fun x => if G x = 1 then 1 else 0) m + (if G (q m) = 1 then 1 else 0) := rfl
    rw [e, if_pos hg]
    have := h.2.2.2
    omega
theorem Kp.add {G : Int → Int} {q : Nat → Nat} {m c : Nat} {sel : Nat → Nat} (h : Kp G q m c sel) (hg : G (q m) ≠ 1) : Kp G q (m + 1) (c + 1) (fun j => if j = c then m else sel j) := by
  refine ⟨fun j hj => ?_, fun a b hab hb => ?_, fun l hl hn => ?_, ?_⟩
  · dsimp only
    by_cases e : j = c
    · rw [if_pos e]; exact ⟨by omega, hg⟩
    · rw [if_neg e]
      have := h.1 j (by omega)
      exact ⟨by omega, this.2⟩
  · dsimp only
    rw [if_neg (show ¬ a = c by omega)]
    by_cases e : b = c
    · rw [if_pos e]; exact (h.1 a (by omega)).1
    · rw [if_neg e]; exact h.2.1 a b hab (by omega)
  · by_cases e : l = m
    · exact ⟨c, by omega, (if_pos rfl).trans e.symm⟩
    · obtain ⟨j, hj, e2⟩ := h.2.2.1 l (by omega) hn
      exact ⟨j, by omega, (if_neg (by omega)).trans e2⟩
  · have e : zsq q (fun x => if G x = 1 then 1 else 0) (m + 1) = zsq q (fun x => if G x = 1 then 1 else 0) m + (if G (q m) = 1 then 1 else 0) := rfl
    rw [e, if_neg hg]
    have := h.2.2.2
    omega
/-- those ahead of a kept one -/
theorem Kp.cut {G : Int → Int} {q : Nat → Nat} {m c : Nat} {sel : Nat → Nat} (h : Kp G q m c sel) {j : Nat} (hj : j < c) : (∀ a, a < j → sel a < sel j ∧ G (q (sel a)) ≠ 1) ∧ ∀ l, l < sel j → G (q l) ≠ 1 → ∃ a, a < j ∧ sel a = l := by
  refine ⟨fun a ha => ⟨h.2.1 a j ha hj, (h.1 a (by omega)).2⟩, fun l hl hn => ?_⟩
  obtain ⟨a, ha, e⟩ := h.2.2.1 l (by have := (h.1 j hj).1; omega) hn
  refine ⟨a, ?_, e⟩
  rcases Nat.lt_trichotomy a j with g | g | g
  · exact g
  · subst g; omega
  · have := h.2.1 j a g ha; omega
/-- a sum over the kept ones -/
theorem ksum {G S : Int → Int} {q sel : Nat → Nat} : ∀ (m c : Nat), (∀ a, a < c → sel a < m ∧ G (q (sel a)) ≠ 1) → (∀ a b, a < b → b < c → sel a < sel b) → (∀ l, l < m → G (q l) ≠ 1 → ∃ a, a < c ∧ sel a = l) → zsq (fun l => q (sel l)) S c = zsq q (fun x => if G x = 1 then 0 else S x) m := by
  intro m
  induction m with
  | zero =>
    intro c h1 _ _
    have e : c = 0 := by
      rcases Nat.eq_zero_or_pos c with g | g
      · exact g
      · have := (h1 0 g).1; omega
    subst e
    rfl
  | succ m ih =>
    intro c h1 h2 h3
    have e : zsq q (fun x => if G x = 1 then 0 else S x) (m + 1) = zsq q (fun x => if G x = 1 then 0 else S x) m + (if G (q m) = 1 then 0 else S (q m)) := rfl
    rw [e]
    by_cases hg : G (q m) = 1
    · rw [if_pos hg, Int.add_zero]
      refine ih c (fun a ha => ?_) h2 (fun l hl hn => h3 l (by omega) hn)
      have := h1 a ha
      refine ⟨?_, this.2⟩
      have hne : sel a ≠ m := fun g => by rw [g] at this; exact this.2 hg
      omega
    · rw [if_neg hg]
      obtain ⟨a, ha, ea⟩ := h3 m (by omega) hg
      have ec : c = a + 1 := by
        by_cases g : a + 1 < c
        · have := h2 a (a + 1) (by omega) g
          have := (h1 (a + 1) g).1
          omega
        · omega
      subst ec
      have := ih a (fun b hb => ⟨by have := h2 b a hb ha; omega, (h1 b (by omega)).2⟩) (fun x y hxy hy => h2 x y hxy (by omega)) (fun l hl hn => by
        obtain ⟨b, hb, eb⟩ := h3 l (by omega) hn
        have hne : b ≠ a := fun g => by subst g; omega
        exact ⟨b, by omega, eb⟩)
      rw [zsq_s, this, ea]
theorem CT.drp {h : zH} {T n : Nat} {F : zF} {ad dl : Int} {ar q : Nat → Nat} (hC : CT h T n F ad dl ar q) {dep : Nat → Nat} {B : Int} (hw : WF n F dep B) {i : Nat} (hi1 : 1 ≤ i) (hi : i < n) {G : Int → Int} {n2 : Nat} {F2 : zF} (hG : IsRem n F (q i) G n2 F2) {c : Nat} {sel : Nat → Nat} (hK : Kp G q n c sel) {R' : Nat → Int → Option Nat} (hR : ∀ o, o ≠ T + 1 → R' o = h.2.2 o) {ar' : Nat → Nat} (hA : ∀ j : Nat, j < 24 → R' (T + 1) j = some (ar' j)) (hA2 : ∀ j, j < 24 → ∃ l, l < 24 ∧ ar' j = ar l) (hA3 : ∀ a b, a < 24 → b < 24 → ar' a = ar' b → a = b) (hA4 : ∀ j, j < c → ar' j = ar (sel j)) : c = n2 ∧ CT (h.1, zup h.2.1 T 2 (c : Int), R') T n2 F2 ad dl ar' (fun j => ((q (sel j) : Int) - gcnt G (q (sel j))).toNat) := by
  have hn := hC.n24
  have hqm : Pm n q := hC.2.2.1.2
  have hO : Ordd n F q := hC.2.2.2.2.2
  obtain ⟨g1, g2, g3⟩ := hG
  have hs := hC.sum (fun x => if G x = 1 then 1 else 0)
  have hgn : zsum (fun x => if G x = 1 then 1 else 0) n = gcnt G n := rfl
  have hcn : c = n2 := by
    have := hK.2.2.2
    rw [hs, hgn] at this
    omega
  have hk0 : q i ≠ 0 := by have := q_pos hqm hi1 hi; omega
  have hG0 : G ((0 : Nat) : Int) ≠ 1 := fun e => by
    rcases g1 0 (by omega) with ⟨-, b⟩ | ⟨e2, -⟩
    · exact hw.bel_root (hqm.1 i hi) hk0 b
    · omega
  have hGk : G (q i) = 1 := by
    rcases g1 (q i) (hqm.1 i hi) with ⟨e, -⟩ | ⟨-, b⟩
    · exact e
    · exact absurd (Bel.self n F _) b
  have hs0 : 0 < c ∧ sel 0 = 0 := by
    obtain ⟨j, hj, e⟩ := hK.2.2.1 0 (by omega) (by rw [hqm.2.2]; exact hG0)
    rcases Nat.eq_zero_or_pos j with g | g
    · subst g; exact ⟨hj, e⟩
    · have := hK.2.1 0 j g hj; omega
  have hpl : ∀ j, j < c → sel j < n ∧ q (sel j) < n ∧ G (q (sel j)) ≠ 1 ∧ q (sel j) ≠ q i := fun j hj => by
    have := hK.1 j hj
    exact ⟨this.1, hqm.1 _ this.1, this.2, fun e => this.2 (by rw [e]; exact hGk)⟩
  have hcast : ∀ j, j < c → ((((q (sel j) : Int) - gcnt G (q (sel j))).toNat : Nat) : Int) = (q (sel j) : Int) - gcnt G (q (sel j)) := fun j hj => by
    have := gcnt_bd G (q (sel j))
    omega
  have hF2 : ∀ j, j < c → ∀ w : Int, 0 ≤ w → w < 7 → F2 ((((q (sel j) : Int) - gcnt G (q (sel j))).toNat : Nat) : Int) w = fleave n F (q i) (q (sel j)) w := fun j hj w h1 h2 => by
    rw [hcast j hj]
    exact g3 _ (hpl j hj).2.1 (hpl j hj).2.2.1 w h1 h2
  have hF2o : ∀ j, j < c → ∀ w : Int, 0 ≤ w → w < 7 → w ≠ 4 → F2 ((((q (sel j) : Int) - gcnt G (q (sel j))).toNat : Nat) : Int) w = F (q (sel j)) w := fun j hj w h1 h2 h4 => by
    rw [hF2 j hj w h1 h2]
    exact fleave_3 n F (q i) (by have := (hpl j hj).2.2.2; omega) w h4
  subst hcn
  refine ⟨rfl, hC.set ⟨zup_s _ _ _ _, (zup_k _ _ _ _ (by decide)).trans hC.tri.2.1, (zup_k _ _ _ _ (by decide)).trans hC.tri.2.2⟩ ⟨congrFun (hR T (by omega)) 0, congrFun (hR T (by omega)) 1⟩ hA hA2 hA3 ?_ (fun j hj => congrFun (hR _ (by have := hC.sep hj; omega)) 14) (fun j hj => ?_) ⟨hs0.1, by have := gcnt_bd G n; omega⟩ ⟨fun j hj => ?_, fun a b ha hb e => ?_, ?_⟩ (fun j hj => ?_) (congrFun (hR _ (by have := hC.sep (show 0 < 24 by omega); omega)) 6) (fun k h1 h2 h3 => zup_o _ _ _ _ (by have := hC.sep (show 0 < 24 by omega); omega)) (fun j h1 hj => ?_)⟩
  · rw [hA4 0 hs0.1, hs0.2]
  · rw [zup_o _ _ _ _ (by have := hC.sep hj; omega)]; exact hC.tk hj
  · have := gcnt_lt (G := G) (hpl j hj).2.1 (hpl j hj).2.2.1
    have := hcast j hj
    dsimp only
    omega
  · have ea := hcast a ha
    have eb := hcast b hb
    dsimp only at e
    rw [e] at ea
    have h3 : q (sel a) = q (sel b) := by
      rcases Nat.lt_trichotomy (q (sel a)) (q (sel b)) with g | g | g
      · have := gcnt_lt (G := G) g (hpl a ha).2.2.1; omega
      · exact g
      · have := gcnt_lt (G := G) g (hpl b hb).2.2.1; omega
    have h4 := hqm.2.1 _ _ (hpl a ha).1 (hpl b hb).1 h3
    rcases Nat.lt_trichotomy a b with g | g | g
    · have := hK.2.1 a b g hb; omega
    · exact g
    · have := hK.2.1 b a g ha; omega
  · dsimp only
    rw [hs0.2, hqm.2.2]
    rfl
  · have hsj := (hpl j hj).1
    have nT : ar (sel j) ≠ T := by have := hC.sep (show sel j < 24 by omega); omega
    show Cn _ (ar' j) _ _
    rw [hA4 j hj]
    unfold Cn
    rw [hF2o j hj 0 (by decide) (by decide) (by decide), hF2o j hj 1 (by decide) (by decide) (by decide), hF2o j hj 2 (by decide) (by decide) (by decide), hF2o j hj 3 (by decide) (by decide) (by decide), hF2o j hj 5 (by decide) (by decide) (by decide), hF2o j hj 6 (by decide) (by decide) (by decide)]
    show zup h.2.1 T 2 (c : Int) (ar (sel j)) 0 = _ ∧ zup h.2.1 T 2 (c : Int) (ar (sel j)) 1 = _ ∧ zup h.2.1 T 2 (c : Int) (ar (sel j)) 2 = _ ∧ zup h.2.1 T 2 (c : Int) (ar (sel j)) 3 = _ ∧ zup h.2.1 T 2 (c : Int) (ar (sel j)) 4 = _ ∧ zup h.2.1 T 2 (c : Int) (ar (sel j)) 5 = _
    rw [zup_o _ _ _ _ nT, zup_o _ _ _ _ nT, zup_o _ _ _ _ nT, zup_o _ _ _ _ nT, zup_o _ _ _ _ nT, zup_o _ _ _ _ nT]
    exact ⟨hC.c0 hsj, hC.c1 hsj, hC.c2 hsj, hC.c3 hsj, hC.c4 hsj, hC.c5 hsj⟩
  · obtain ⟨hsj, hqj, hGj, hkj⟩ := hpl j hj
    have hsj1 : 1 ≤ sel j := by have := hK.2.1 0 j (by omega) hj; omega
    have hij : sel j ≠ i := fun e => hkj (by rw [e])
    rw [hF2 j hj 4 (by decide) (by decide), fleave_4 (by omega), flv_val hO hqm hi1 hi hsj1 hsj hij, hO _ hsj1 hsj]
    obtain ⟨k1, k2⟩ := hK.cut hj
    have e1 : zsq (fun j => ((q (sel j) : Int) - gcnt G (q (sel j))).toNat) (sameRow F2 ((((q (sel j) : Int) - gcnt G (q (sel j))).toNat : Nat) : Int)) j = zsq (fun l => q (sel l)) (sameRow F (q (sel j))) j := zsum_congr fun l hl => by
      show sameRow F2 _ ((((q (sel l) : Int) - gcnt G (q (sel l))).toNat : Nat) : Int) = sameRow F _ (q (sel l))
      unfold sameRow
      rw [hF2o j hj 2 (by decide) (by decide) (by decide), hF2o j hj 3 (by decide) (by decide) (by decide), hF2o l (by omega) 2 (by decide) (by decide) (by decide), hF2o l (by omega) 3 (by decide) (by decide) (by decide)]
    rw [e1, ksum (G := G) (sel j) j k1 (fun a b hab hb => hK.2.1 a b hab (by omega)) k2]
    have hmate : ∀ l, l < sel j → G (q l) = 1 → l ≠ i → sameRow F (q (sel j)) (q l) = 0 := fun l hl hg hli => if_neg fun g => by
      have hln : l < n := by omega
      have hql := hqm.1 l hln
      rcases g1 (q l) hql with ⟨-, hb⟩ | ⟨e, -⟩
      · have hq1 : 1 ≤ q (sel j) := q_pos hqm hsj1 hsj
        obtain ⟨p, hp, e2, -⟩ := hw.par_of hq1 hqj
        have hbp := (hw.bel_up hql (hqm.1 i hi) (g.1.trans e2) (fun e => hli (hC.qin hln hi e))).mp hb
        have hbo := (hw.bel_up hqj (hqm.1 i hi) e2 hkj).mpr hbp
        rcases g1 (q (sel j)) hqj with ⟨e, -⟩ | ⟨-, hb2⟩
        · exact hGj e
        · exact hb2 hbo
      · omega
    by_cases hisj : i < sel j
    · rw [if_pos hisj]
      have := zsum_chg (g := fun l => (fun x => if G x = 1 then 0 else sameRow F (q (sel j)) x) (q l.toNat)) (g' := fun l => sameRow F (q (sel j)) (q l.toNat)) hisj (fun l hl hne => by
        show sameRow F (q (sel j)) (q l) = (if G (q l) = 1 then 0 else sameRow F (q (sel j)) (q l))
        by_cases hg : G (q l) = 1
        · rw [if_pos hg]; exact hmate l hl hg hne
        · rw [if_neg hg])
      have e2 : (fun l : Int => (fun x => if G x = 1 then 0 else sameRow F (q (sel j)) x) (q l.toNat)) (i : Int) = 0 := if_pos hGk
      have e3 : sameRow F (q (sel j)) (q (i : Int).toNat) = sameRow F (q (sel j)) (q i) := rfl
      rw [e2, e3] at this
      show zsum (fun l => sameRow F (q (sel j)) (q l.toNat)) (sel j) - _ = zsum (fun l => (fun x => if G x = 1 then 0 else sameRow F (q (sel j)) x) (q l.toNat)) (sel j)
      omega
    · rw [if_neg hisj, Int.sub_zero]
      refine zsum_congr fun l hl => ?_
      show sameRow F (q (sel j)) (q l) = (if G (q l) = 1 then 0 else sameRow F (q (sel j)) (q l))
      by_cases hg : G (q l) = 1
      · rw [if_pos hg]; exact hmate l hl hg (by omega)
      · rw [if_neg hg]
theorem GP.fr {h : zH} {n : Nat} {F : zF} {ar q : Nat → Nat} (hG : GP h n F ar q) {I' : Nat → Int → Int} {R' : Nat → Int → Option Nat} (e : ∀ i, i < n → R' (ar i) = h.2.2 (ar i)) : GP (h.1, I', R') n F ar q := by
  refine ⟨fun i hi => ⟨(hG.1 i hi).1, (hG.1 i hi).2.1, (congrFun (e i hi) 14).trans (hG.1 i hi).2.2⟩, hG.2.1, hG.2.2.1, fun i hi => ?_⟩
  show (q i = 0 → R' (ar i) 6 = none) ∧ ∀ j, j < n → F (q i) 2 = F (q j) 0 → R' (ar i) 6 = some (ar j)
  rw [e i hi]
  exact hG.2.2.2 i hi
theorem s_drop_loop {h : zH} {T n : Nat} {F : zF} {ad dl : Int} {ar q : Nat → Nat} (hC : CT h T n F ad dl ar q) (hGP : GP h n F ar q) {dep : Nat → Nat} {B : Int} (hw : WF n F dep B) {i : Nat} (hi : i < n) {G : Int → Int} (hG1 : ∀ j : Nat, j < n → G j = 1 ∧ Bel n F (F j 0) (F (q i) 0) ∨ G j = 0 ∧ ¬ Bel n F (F j 0) (F (q i) 0)) {Q : (Nat → Int → Int) → (Nat → Int → Option Nat) → Prop} {v : Int} (K : ∀ (R2 : Nat → Int → Option Nat) (ar2 : Nat → Nat) (c : Nat) (sel : Nat → Nat), ((∀ o, o ≠ T + 1 → R2 o = h.2.2 o) ∧ (∀ j : Nat, j < 24 → R2 (T + 1) j = some (ar2 j)) ∧ (∀ j, j < 24 → ∃ l, l < 24 ∧ ar2 j = ar l) ∧ (∀ a b, a < 24 → b < 24 → ar2 a = ar2 b → a = b) ∧ (∀ j, n ≤ j → j < 24 → ar2 j = ar j) ∧ (∀ j, j < c → ar2 j = ar (sel j)) ∧ Kp G q n c sel) → ∃ (I3 : Nat → Int → Int) (R3 : Nat → Int → Option Nat), Q I3 R3 ∧ Ev M_X5_dropAll 58 [(0, zr (some T)), (1, zr (some (ar i))), (2, zi (c : Int)), (3, zi (n : Int))] [] (h.1, h.2.1, R2) (0, 0) (.inl (some (zi v)), (h.1, I3, R3))) : ∀ (j m c : Nat) (R' : Nat → Int → Option Nat) (ar' sel : Nat → Nat), m ≤ n → n - m = j → c ≤ m → ((∀ o, o ≠ T + 1 → R' o = h.2.2 o) ∧ (∀ j : Nat, j < 24 → R' (T + 1) j = some (ar' j)) ∧ (∀ j, j < 24 → ∃ l, l < 24 ∧ ar' j = ar l) ∧ (∀ a b, a < 24 → b < 24 → ar' a = ar' b → a = b) ∧ (∀ j, m ≤ j → j < 24 → ar' j = ar j) ∧ (∀ j, j < c → ar' j = ar (sel j)) ∧ Kp G q m c sel) → ∃ (I3 : Nat → Int → Int) (R3 : Nat → Int → Option Nat), Q I3 R3 ∧ Ev M_X5_dropAll 4 [(0, zr (some T)), (1, zr (some (ar i))), (2, zi (c : Int)), (3, zi (m : Int))] [] (h.1, h.2.1, R') (0, 0) (.inl (some (zi v)), (h.1, I3, R3)) := by
  intro j
  have hn := hC.n24
  induction j with
  | zero =>
    intro m c R' ar' sel hm hj hcm hI
    have e : m = n := by omega
    subst e
    obtain ⟨I3, R3, h3, h4⟩ := K R' ar' c sel hI
    refine ⟨I3, R3, h3, ?_⟩
    obtain ⟨hR, -⟩ := hI
    refine Ev.iload_n (pc := 4) (n := (0, 0)) (i := 3) dX5_dropAll_4 rfl rfl ?_
    refine Ev.aload_n (pc := 5) (n := (0, 0)) (i := 0) dX5_dropAll_5 rfl rfl ?_
    refine Ev.gI (pc := 6) (n := (0, 0)) (x := (m : Int)) dX5_dropAll_6 fl_X5_20 hC.1.1.1 rfl hC.1.2.2.1 ?_
    refine Ev.icmp_ge (pc := 9) (n := (0, 0)) (tgt := 58) dX5_dropAll_9 rfl (fun hc => ?_) (fun hc => absurd hc (by omega))
    exact h4
  | succ j ih =>
    intro m c R' ar' sel hm hj hcm hI
    have hmn : m < n := by omega
    obtain ⟨hR, r1, r2, r3, r4, r5, r6⟩ := hI
    have eM : R' (T + 1) (m : Int) = some (ar m) := (r1 m (by omega)).trans (by rw [r4 m (Nat.le_refl _) (by omega)])
    have hq := hC.qlt hmn
    have hGP2 : GP (h.1, h.2.1, R') n F ar q := hGP.fr (fun x hx => hR _ (by have := hC.sep (show x < 24 by omega); omega))
    obtain ⟨b, hb, k8⟩ := s_isWithin hGP2 hw hmn hi
    rcases hb with ⟨rfl, hb⟩ | ⟨rfl, hb⟩
    · have hg : G (q m) = 1 := by
        rcases hG1 (q m) hq with ⟨e, -⟩ | ⟨-, e⟩
        · exact e
        · exact absurd hb e
      obtain ⟨I3, R3, h3, h4⟩ := ih (m + 1) c R' ar' sel (by omega) (by omega) (by omega) ⟨hR, r1, r2, r3, fun j hj h2 => r4 j (by omega) h2, r5, r6.skip hg⟩
      refine ⟨I3, R3, h3, ?_⟩
      refine Ev.iload_n (pc := 4) (n := (0, 0)) (i := 3) dX5_dropAll_4 rfl rfl ?_
      refine Ev.aload_n (pc := 5) (n := (0, 0)) (i := 0) dX5_dropAll_5 rfl rfl ?_
      refine Ev.gI (pc := 6) (n := (0, 0)) (x := (n : Int)) dX5_dropAll_6 fl_X5_20 hC.1.1.1 rfl hC.1.2.2.1 ?_
      refine Ev.icmp_ge (pc := 9) (n := (0, 0)) (tgt := 58) dX5_dropAll_9 rfl (fun hc9 => absurd hc9 (by omega)) (fun hc9 => ?_)
      refine Ev.aload_n (pc := 12) (n := (0, 0)) (i := 0) dX5_dropAll_12 rfl rfl ?_
      refine Ev.gR (pc := 13) (n := (0, 0)) (r := (some (T + 1))) dX5_dropAll_13 fl_X5_11 hC.1.1.1 rfl (show R' T 0 = some (T + 1) from (congrFun (hR T (by omega)) 0).trans hC.1.2.1.1) ?_
      refine Ev.iload_n (pc := 16) (n := (0, 0)) (i := 3) dX5_dropAll_16 rfl rfl ?_
      refine Ev.aa (pc := 17) (n := (0, 0)) (r := (some (ar m))) dX5_dropAll_17 hC.1.1.2.1 (by decide) (by omega) (by omega) eM ?_
      refine Ev.astore (pc := 18) (n := (0, 0)) (i := 4) (L' := [(4, zr (some (ar m))), (0, zr (some T)), (1, zr (some (ar i))), (2, zi (c : Int)), (3, zi (m : Int))]) dX5_dropAll_18 (Nat.le_of_ble_eq_true rfl) rfl ?_
      refine Ev.aload (pc := 20) (n := (0, 0)) dX5_dropAll_20 rfl ?_
      refine Ev.aload_n (pc := 22) (n := (0, 0)) (i := 1) dX5_dropAll_22 rfl rfl ?_
      refine Ev.callV (pc := 23) (n := (0, 0)) (ob := (ar m)) (as := [zr (some (ar i))]) (st := []) (k8) dX5_dropAll_23 ok_X3_isWithin (lk_X5_187 rfl) ⟨(Nat.le_of_ble_eq_true rfl), (Nat.le_of_ble_eq_true rfl)⟩ (hC.nd hmn).1 ⟨by decide, rfl⟩ rfl (Nat.le_of_ble_eq_true rfl) (Nat.le_of_ble_eq_true rfl) ⟨(Nat.le_of_ble_eq_true rfl), (Nat.le_of_ble_eq_true rfl)⟩ ?_
      refine Ev.if_ne (pc := 26) (n := (0, 0)) (tgt := 52) dX5_dropAll_26 rfl (fun hc9 => ?_) (fun hc9 => absurd hc9 (by decide))
      refine Ev.iinc (pc := 52) (n := (0, 0)) (L' := [(3, zi ((m : Int) + 1)), (4, zr (some (ar m))), (0, zr (some T)), (1, zr (some (ar i))), (2, zi (c : Int))]) dX5_dropAll_52 rfl (Nat.le_of_ble_eq_true rfl) ⟨by omega, by omega⟩ rfl ?_
      refine Ev.goto (pc := 55) (n := (0, 0)) (tgt := 4) dX5_dropAll_55 rfl ?_
      refine Ev.perm [2, 3, 4, 0] rfl ?_
      exact h4
    · have hg : G (q m) ≠ 1 := by
        rcases hG1 (q m) hq with ⟨-, e⟩ | ⟨e, -⟩
        · exact absurd e hb
        · omega
      obtain ⟨l0, hl0, el0⟩ := r2 c (by omega)
      have hkc : h.1[ar' c]? = some (1, 0) := by rw [el0]; exact (hC.nd24 hl0).1
      have em : ar' m = ar m := r4 m (Nat.le_refl _) (by omega)
      have e24 : c < 24 := by omega
      obtain ⟨I3, R3, h3, h4⟩ := ih (m + 1) (c + 1) (zup (zup R' (T + 1) (m : Int) (some (ar' c))) (T + 1) (c : Int) (some (ar m))) (fun j => if j = c then ar m else if j = m then ar' c else ar' j) (fun j => if j = c then m else sel j) (by omega) (by omega) (by omega) ⟨fun o ho => (funext fun k => (zup_o _ _ _ _ ho).trans (zup_o _ _ _ _ ho)).trans (hR o ho), fun j hj => by
        by_cases c1 : j = c
        · subst c1
          show _ = some (if j = j then ar m else _)
          rw [if_pos rfl, zup_s]
        · rw [zup_k _ _ _ _ (by omega)]
          show _ = some (if j = c then ar m else if j = m then ar' c else ar' j)
          rw [if_neg c1]
          by_cases c2 : j = m
          · subst c2
            rw [if_pos rfl, zup_s]
          · rw [if_neg c2, zup_k _ _ _ _ (by omega)]
            exact r1 j hj, fun j hj => by
        split
        · exact ⟨m, by omega, rfl⟩
        · split
          · exact r2 c e24
          · exact r2 j hj, fun a b ha hb e => by
        have K2 : ∀ x, x < 24 → (if x = c then ar m else if x = m then ar' c else ar' x) = ar' (if x = c then m else if x = m then c else x) := fun x hx => by
          split
          · exact em.symm
          · split <;> rfl
        rw [K2 a ha, K2 b hb] at e
        have := r3 _ _ (by split <;> (try split) <;> omega) (by split <;> (try split) <;> omega) e
        repeat' split at this
        all_goals omega, fun j hj h2 => by
        rw [if_neg (by omega), if_neg (by omega)]
        exact r4 j (by omega) h2, fun j hj => by
        by_cases c1 : j = c
        · rw [if_pos c1, if_pos c1]
        · rw [if_neg c1, if_neg c1, if_neg (by omega)]
          exact r5 j (by omega), r6.add hg⟩
      refine ⟨I3, R3, h3, ?_⟩
      refine Ev.iload_n (pc := 4) (n := (0, 0)) (i := 3) dX5_dropAll_4 rfl rfl ?_
      refine Ev.aload_n (pc := 5) (n := (0, 0)) (i := 0) dX5_dropAll_5 rfl rfl ?_
      refine Ev.gI (pc := 6) (n := (0, 0)) (x := (n : Int)) dX5_dropAll_6 fl_X5_20 hC.1.1.1 rfl hC.1.2.2.1 ?_
      refine Ev.icmp_ge (pc := 9) (n := (0, 0)) (tgt := 58) dX5_dropAll_9 rfl (fun hc9 => absurd hc9 (by omega)) (fun hc9 => ?_)
      refine Ev.aload_n (pc := 12) (n := (0, 0)) (i := 0) dX5_dropAll_12 rfl rfl ?_
      refine Ev.gR (pc := 13) (n := (0, 0)) (r := (some (T + 1))) dX5_dropAll_13 fl_X5_11 hC.1.1.1 rfl (show R' T 0 = some (T + 1) from (congrFun (hR T (by omega)) 0).trans hC.1.2.1.1) ?_
      refine Ev.iload_n (pc := 16) (n := (0, 0)) (i := 3) dX5_dropAll_16 rfl rfl ?_
      refine Ev.aa (pc := 17) (n := (0, 0)) (r := (some (ar m))) dX5_dropAll_17 hC.1.1.2.1 (by decide) (by omega) (by omega) eM ?_
      refine Ev.astore (pc := 18) (n := (0, 0)) (i := 4) (L' := [(4, zr (some (ar m))), (0, zr (some T)), (1, zr (some (ar i))), (2, zi (c : Int)), (3, zi (m : Int))]) dX5_dropAll_18 (Nat.le_of_ble_eq_true rfl) rfl ?_
      refine Ev.aload (pc := 20) (n := (0, 0)) dX5_dropAll_20 rfl ?_
      refine Ev.aload_n (pc := 22) (n := (0, 0)) (i := 1) dX5_dropAll_22 rfl rfl ?_
      refine Ev.callV (pc := 23) (n := (0, 0)) (ob := (ar m)) (as := [zr (some (ar i))]) (st := []) (k8) dX5_dropAll_23 ok_X3_isWithin (lk_X5_187 rfl) ⟨(Nat.le_of_ble_eq_true rfl), (Nat.le_of_ble_eq_true rfl)⟩ (hC.nd hmn).1 ⟨by decide, rfl⟩ rfl (Nat.le_of_ble_eq_true rfl) (Nat.le_of_ble_eq_true rfl) ⟨(Nat.le_of_ble_eq_true rfl), (Nat.le_of_ble_eq_true rfl)⟩ ?_
      refine Ev.if_ne (pc := 26) (n := (0, 0)) (tgt := 52) dX5_dropAll_26 rfl (fun hc9 => absurd rfl hc9) (fun hc9 => ?_)
      refine Ev.aload_n (pc := 29) (n := (0, 0)) (i := 0) dX5_dropAll_29 rfl rfl ?_
      refine Ev.gR (pc := 30) (n := (0, 0)) (r := (some (T + 1))) dX5_dropAll_30 fl_X5_11 hC.1.1.1 rfl (show R' T 0 = some (T + 1) from (congrFun (hR T (by omega)) 0).trans hC.1.2.1.1) ?_
      refine Ev.iload_n (pc := 33) (n := (0, 0)) (i := 3) dX5_dropAll_33 rfl rfl ?_
      refine Ev.aload_n (pc := 34) (n := (0, 0)) (i := 0) dX5_dropAll_34 rfl rfl ?_
      refine Ev.gR (pc := 35) (n := (0, 0)) (r := (some (T + 1))) dX5_dropAll_35 fl_X5_11 hC.1.1.1 rfl (show R' T 0 = some (T + 1) from (congrFun (hR T (by omega)) 0).trans hC.1.2.1.1) ?_
      refine Ev.iload_n (pc := 38) (n := (0, 0)) (i := 2) dX5_dropAll_38 rfl rfl ?_
      refine Ev.aa (pc := 39) (n := (0, 0)) (r := (some (ar' c))) dX5_dropAll_39 hC.1.1.2.1 (by decide) (by omega) (by omega) (r1 c e24) ?_
      refine Ev.aast (pc := 40) (n := (0, 0)) dX5_dropAll_40 hC.1.1.2.1 (by decide) hkc (by omega) (by omega) ?_
      refine Ev.aload_n (pc := 41) (n := (0, 0)) (i := 0) dX5_dropAll_41 rfl rfl ?_
      refine Ev.gR (pc := 42) (n := (0, 0)) (r := (some (T + 1))) dX5_dropAll_42 fl_X5_11 hC.1.1.1 rfl (show (zup R' (T + 1) (m : Int) (some (ar' c))) T 0 = some (T + 1) from (zup_o _ _ _ _ (by omega)).trans ((congrFun (hR T (by omega)) 0).trans hC.1.2.1.1)) ?_
      refine Ev.iload_n (pc := 45) (n := (0, 0)) (i := 2) dX5_dropAll_45 rfl rfl ?_
      refine Ev.aload (pc := 46) (n := (0, 0)) dX5_dropAll_46 rfl ?_
      refine Ev.aast (pc := 48) (n := (0, 0)) dX5_dropAll_48 hC.1.1.2.1 (by decide) (hC.nd hmn).1 (by omega) (by omega) ?_
      refine Ev.iinc (pc := 49) (n := (0, 0)) (L' := [(2, zi ((c : Int) + 1)), (4, zr (some (ar m))), (0, zr (some T)), (1, zr (some (ar i))), (3, zi (m : Int))]) dX5_dropAll_49 rfl (Nat.le_of_ble_eq_true rfl) ⟨by omega, by omega⟩ rfl ?_
      refine Ev.iinc (pc := 52) (n := (0, 0)) (L' := [(3, zi ((m : Int) + 1)), (2, zi ((c : Int) + 1)), (4, zr (some (ar m))), (0, zr (some T)), (1, zr (some (ar i)))]) dX5_dropAll_52 rfl (Nat.le_of_ble_eq_true rfl) ⟨by omega, by omega⟩ rfl ?_
      refine Ev.goto (pc := 55) (n := (0, 0)) (tgt := 4) dX5_dropAll_55 rfl ?_
      refine Ev.perm [3, 4, 1, 0] rfl ?_
      exact h4
theorem s_dropAll {h : zH} {T n : Nat} {F : zF} {ad dl : Int} {ar q : Nat → Nat} (hC : CT h T n F ad dl ar q) {len st sl dp : Int → Int} (hP : PLN h n F len st sl dp ar q) {dep : Nat → Nat} {B : Int} (hw : WF n F dep B) {i : Nat} (hi1 : 1 ≤ i) (hi : i < n) {G : Int → Int} {n2 : Nat} {F2 : zF} (hG : IsRem n F (q i) G n2 F2) {dep2 : Nat → Nat} {B2 : Int} (hw2 : WF n2 F2 dep2 B2) (hB2 : 24 * (60 + B2) ≤ 1000000000) {len2 st2 sl2 dp2 : Int → Int} (hl2 : IsLen n2 F2 len2) (ht2 : IsTm n2 F2 len2 st2 sl2 dp2) : ∃ (I3 : Nat → Int → Int) (R3 : Nat → Int → Option Nat), (∃ (ar2 q2 : Nat → Nat), (CT (h.1, I3, R3) T n2 F2 ad dl ar2 q2 ∧ PLN (h.1, I3, R3) n2 F2 len2 st2 sl2 dp2 ar2 q2 ∧ ∀ o, (o < T ∨ T + 51 ≤ o) → I3 o = h.2.1 o ∧ R3 o = h.2.2 o)) ∧ Ev M_X5_dropAll 0 [(0, zr (some T)), (1, zr (some (ar i)))] [] h (0, 0) (.inl (some (zi (gcnt G n))), (h.1, I3, R3)) := by
  have hn := hC.n24
  have hG1 := hG.1
  have hgc := hG.2.1
  obtain ⟨I3, R3, h3, h4⟩ := s_drop_loop hC (GP.of hC hP) hw hi hG1 (v := gcnt G n) (Q := fun I3 R3 => ∃ (ar2 q2 : Nat → Nat), (CT (h.1, I3, R3) T n2 F2 ad dl ar2 q2 ∧ PLN (h.1, I3, R3) n2 F2 len2 st2 sl2 dp2 ar2 q2 ∧ ∀ o, (o < T ∨ T + 51 ≤ o) → I3 o = h.2.1 o ∧ R3 o = h.2.2 o)) (fun R2 ar2 c sel hI => by
    obtain ⟨hR, r1, r2, r3, r4, r5, r6⟩ := hI
    obtain ⟨ec, hC1⟩ := hC.drp hw hi1 hi hG r6 hR r1 r2 r3 r5
    subst ec
    obtain ⟨I3, R3, hC3, hP3, hfr, k1⟩ := s_plan hC1 hw2 hB2 hl2 ht2
    refine ⟨I3, R3, ⟨_, _, hC3, hP3, fun o ho => ⟨(hfr o ho).1.trans (funext fun k => zup_o _ _ _ _ (by omega)), (hfr o ho).2.trans (hR o (by omega))⟩⟩, ?_⟩
    have hgb := gcnt_bd G n
    have ev : (n : Int) - (c : Int) = gcnt G n := by omega
    refine Ev.aload_n (pc := 58) (n := (0, 0)) (i := 0) dX5_dropAll_58 rfl rfl ?_
    refine Ev.gI (pc := 59) (n := (0, 0)) (x := (n : Int)) dX5_dropAll_59 fl_X5_20 hC.1.1.1 rfl hC.1.2.2.1 ?_
    refine Ev.iload_n (pc := 62) (n := (0, 0)) (i := 2) dX5_dropAll_62 rfl rfl ?_
    refine Ev.isub (pc := 63) (n := (0, 0)) dX5_dropAll_63 ⟨by omega, by omega⟩ ?_
    rw [ev]
    refine Ev.istore_n (pc := 64) (n := (0, 0)) (i := 3) (L' := [(3, zi (gcnt G n)), (0, zr (some T)), (1, zr (some (ar i))), (2, zi (c : Int))]) dX5_dropAll_64 rfl (Nat.le_of_ble_eq_true rfl) rfl ?_
    refine Ev.aload_n (pc := 65) (n := (0, 0)) (i := 0) dX5_dropAll_65 rfl rfl ?_
    refine Ev.iload_n (pc := 66) (n := (0, 0)) (i := 2) dX5_dropAll_66 rfl rfl ?_
    refine Ev.putI (pc := 67) (n := (0, 0)) dX5_dropAll_67 fl_X5_20 hC.1.1.1 rfl rfl (fun h9 => by cases h9) ?_
    refine Ev.aload_n (pc := 70) (n := (0, 0)) (i := 0) dX5_dropAll_70 rfl rfl ?_
    refine Ev.callV (pc := 71) (n := (0, 0)) (ob := T) (as := []) (st := []) (k1) dX5_dropAll_71 ok_X5_plan (lk_X5_184 rfl) ⟨(Nat.le_of_ble_eq_true rfl), (Nat.le_of_ble_eq_true rfl)⟩ hC1.1.1.1 ⟨by decide, rfl⟩ rfl (Nat.le_of_ble_eq_true rfl) (Nat.le_of_ble_eq_true rfl) ⟨(Nat.le_of_ble_eq_true rfl), (Nat.le_of_ble_eq_true rfl)⟩ ?_
    refine Ev.iload_n (pc := 74) (n := (0, 0)) (i := 3) dX5_dropAll_74 rfl rfl ?_
    exact Ev.iret dX5_dropAll_75 rfl ⟨(Nat.le_of_ble_eq_true rfl), (Nat.le_of_ble_eq_true rfl)⟩)
    n 0 0 h.2.2 ar (fun _ => 0) (by omega) rfl (by omega) ⟨fun _ _ => rfl, fun j hj => hC.a24 hj, fun j hj => ⟨j, hj, rfl⟩, hC.2.1.2.2.1, fun _ _ _ => rfl, fun j hj => by omega, Kp.none G q _⟩
  refine ⟨I3, R3, h3, ?_⟩
  refine Ev.iconst (pc := 0) (n := (0, 0)) dX5_dropAll_0 ?_
  refine Ev.istore_n (pc := 1) (n := (0, 0)) (i := 2) (L' := [(2, zi 0), (0, zr (some T)), (1, zr (some (ar i)))]) dX5_dropAll_1 rfl (Nat.le_of_ble_eq_true rfl) rfl ?_
  refine Ev.iconst (pc := 2) (n := (0, 0)) dX5_dropAll_2 ?_
  refine Ev.istore_n (pc := 3) (n := (0, 0)) (i := 3) (L' := [(3, zi 0), (2, zi 0), (0, zr (some T)), (1, zr (some (ar i)))]) dX5_dropAll_3 rfl (Nat.le_of_ble_eq_true rfl) rfl ?_
  refine Ev.perm [2, 3, 1, 0] rfl ?_
  exact h4
