/-! the changes keep a tree a tree -/
theorem WF.bel_up {n : Nat} {f : zF} {dep : Nat → Nat} {B : Int} (h : WF n f dep B) {x p k : Nat} (hx : x < n) (hk : k < n) (e : f x 2 = f p 0) (hne : x ≠ k) : Bel n f (f x 0) (f k 0) ↔ Bel n f (f p 0) (f k 0) := by
  have h1 : f x 0 ≠ f k 0 := fun g => hne (h.num_inj hx hk g)
  have h2 : f x 0 ≠ -1 := fun g => by have := h.num_nn hx; omega
  rw [Bel.up h1 h2, (h.chn 0).pos hx, e]
theorem WF.bel_root {n : Nat} {f : zF} {dep : Nat → Nat} {B : Int} (h : WF n f dep B) {k : Nat} (hk : k < n) (hk0 : k ≠ 0) : ¬ Bel n f (f 0 0) (f k 0) := by
  have hn := h.1.1
  have h1 : f (0 : Nat) 0 ≠ f k 0 := fun g => hk0 (h.num_inj (i := 0) (by omega) hk g).symm
  have h2 : f (0 : Nat) 0 ≠ -1 := fun g => by have := h.num_nn (i := 0) (by omega); omega
  intro g
  have g2 := (Bel.up h1 h2).mp g
  rw [(h.chn 0).pos (p := 0) (by omega)] at g2
  have h3 : f ((0 : Nat) : Int) 2 = -1 := h.2.1.2.2.1
  rw [h3] at g2
  have := h.num_nn hk
  exact Bel.none (by omega) g2
theorem WF.par_of {n : Nat} {f : zF} {dep : Nat → Nat} {B : Int} (h : WF n f dep B) {x : Nat} (h1 : 1 ≤ x) (hx : x < n) : ∃ p : Nat, p < n ∧ f x 2 = f p 0 ∧ f p 1 = 0 ∧ dep x = dep p + 1 := (h.2.2.2.2.1 x h1 hx).2.2
theorem WF.bel_dep {n : Nat} {f : zF} {dep : Nat → Nat} {B : Int} (h : WF n f dep B) {k : Nat} (hk : k < n) (hk0 : k ≠ 0) : ∀ x : Nat, x < n → Bel n f (f x 0) (f k 0) → dep k ≤ dep x := by
  refine h.down (P := fun x => Bel n f (f x 0) (f k 0) → dep k ≤ dep x) (fun g => absurd g (h.bel_root hk hk0)) (fun x p h1 hx hp e ih g => ?_)
  by_cases c : x = k
  · subst c; exact Nat.le_refl _
  · have := ih ((h.bel_up hx hk e c).mp g)
    have := h.dep_c hp h1 hx e
    omega
theorem mcc_lt {n : Nat} {f : zF} {g r : Int} (hn : 1 ≤ n) (h0 : f 0 2 ≠ g) : 0 ≤ mcc n f g r ∧ mcc n f g r ≤ n - 1 := by
  have key : ∀ m : Nat, 0 ≤ zsum (fun j => if f j 2 = g ∧ f j 3 = r then 1 else 0) (m + 1) ∧ zsum (fun j => if f j 2 = g ∧ f j 3 = r then 1 else 0) (m + 1) ≤ m := by
    intro m
    induction m with
    | zero =>
      show 0 ≤ (0 : Int) + (if f 0 2 = g ∧ f 0 3 = r then 1 else 0) ∧ (0 : Int) + (if f 0 2 = g ∧ f 0 3 = r then 1 else 0) ≤ 0
      rw [if_neg (fun q => h0 q.1)]
      exact ⟨by decide, by decide⟩
    | succ m ih =>
      have e : zsum (fun j => if f j 2 = g ∧ f j 3 = r then 1 else 0) (m + 1 + 1) = zsum (fun j => if f j 2 = g ∧ f j 3 = r then 1 else 0) (m + 1) + (if f (m + 1 : Nat) 2 = g ∧ f (m + 1 : Nat) 3 = r then 1 else 0) := rfl
      rw [e]
      split <;> omega
  have := key (n - 1)
  rw [show n - 1 + 1 = n by omega] at this
  have e : mcc n f g r = zsum (fun j => if f j 2 = g ∧ f j 3 = r then 1 else 0) n := rfl
  omega
/-- a reserve or a duration of a task, changed -/
theorem WF.res {n : Nat} {f f' : zF} {dep : Nat → Nat} {B B' : Int} (h : WF n f dep B) {k : Nat} (hk : k < n) (ht : f k 1 = 1) (hB : B ≤ B') (ho : ∀ o w : Int, ¬ (o = k ∧ (w = 5 ∨ w = 6)) → f' o w = f o w) (h5 : 0 ≤ f' k 5 ∧ f' k 5 ≤ 60) (h6 : 0 ≤ f' k 6 ∧ f' k 6 ≤ B') : WF n f' dep B' := by
  obtain ⟨h1, ⟨a0, a1, a2, a3, a4⟩, h3, h4, h5', h6'⟩ := h
  have e : ∀ o w : Int, w < 5 → f' o w = f o w := fun o w hw => ho o w (by omega)
  refine ⟨h1, ⟨?_, ?_, ?_, ?_, ?_⟩, fun i j hij hj => ?_, fun j hj => ?_, fun j hj1 hj => ?_, h6'⟩
  · rw [e _ _ (by omega)]; exact a0
  · rw [e _ _ (by omega)]; exact a1
  · rw [e _ _ (by omega)]; exact a2
  · rw [e _ _ (by omega)]; exact a3
  · rw [e _ _ (by omega)]; exact a4
  · rw [e _ _ (by omega), e _ _ (by omega)]; exact h3 i j hij hj
  · rw [e _ 1 (by omega)]
    by_cases c : j = k
    · subst c
      exact ⟨(h4 j hj).1, h5, h6, fun g => by rw [ht] at g; exact absurd g (by decide)⟩
    · rw [ho j 5 (by omega), ho j 6 (by omega)]
      have := h4 j hj
      exact ⟨this.1, this.2.1, by omega, this.2.2.2⟩
  · rw [e _ 3 (by omega), e _ 4 (by omega), e _ 2 (by omega)]
    obtain ⟨b1, b2, p, hp, b3, b4, b5⟩ := h5' j hj1 hj
    exact ⟨b1, b2, p, hp, by rw [e _ 0 (by omega)]; exact b3, by rw [e _ 1 (by omega)]; exact b4, b5⟩
theorem WF.rsv {n : Nat} {f : zF} {dep : Nat → Nat} {B B' : Int} (h : WF n f dep B) {k : Nat} (hk : k < n) (ht : f k 1 = 1) (hB : B ≤ B') {v : Int} (hv : 0 ≤ v ∧ v ≤ B') : WF n (fup f k 6 v) dep B' := by
  refine h.res hk ht hB (fun o w g => if_neg (fun q => g ⟨q.1, Or.inr q.2⟩)) ?_ ?_
  · rw [show fup f k 6 v k 5 = f k 5 from if_neg (fun q => absurd q.2 (by decide))]; exact (h.2.2.2.1 k hk).2.1
  · rw [show fup f k 6 v k 6 = v from if_pos ⟨rfl, rfl⟩]; exact hv
theorem mres_rng {d r d2 : Int} (hr : 0 ≤ r) : 0 ≤ mres d r d2 ∧ mres d r d2 ≤ r := by
  unfold mres
  repeat' split
  all_goals omega
theorem WF.lst {n : Nat} {f : zF} {dep : Nat → Nat} {B B' : Int} (h : WF n f dep B) {k : Nat} (hk : k < n) (ht : f k 1 = 1) (hB : B ≤ B') {d : Int} (hd : 0 ≤ d ∧ d ≤ 60) : WF n (flast f k d) dep B' := by
  have b := h.2.2.2.1 k hk
  have m := mres_rng (d := f k 5) (r := f k 6) (d2 := d) b.2.2.1.1
  refine h.res hk ht hB (fun o w g => ?_) ?_ ?_
  · unfold flast
    rw [show fup (fup f k 6 (mres (f k 5) (f k 6) d)) k 5 d o w = fup f k 6 (mres (f k 5) (f k 6) d) o w from if_neg (fun q => g ⟨q.1, Or.inl q.2⟩)]
    exact if_neg (fun q => g ⟨q.1, Or.inr q.2⟩)
  · rw [show flast f k d k 5 = d from if_pos ⟨rfl, rfl⟩]; exact hd
  · rw [show flast f k d k 6 = mres (f k 5) (f k 6) d from (if_neg (fun q => absurd q.2 (by decide))).trans (if_pos ⟨rfl, rfl⟩)]; omega
/-- a new node -/
theorem fadd_o {n : Nat} {f : zF} {a t g r d : Int} {o : Int} (ho : o ≠ n) (w : Int) : fadd n f a t g r d o w = f o w := by
  unfold fadd fup
  repeat rw [if_neg (fun q => ho q.1)]
theorem fadd_n (n : Nat) (f : zF) (a t g r d : Int) : fadd n f a t g r d n 0 = a ∧ fadd n f a t g r d n 1 = t ∧ fadd n f a t g r d n 2 = g ∧ fadd n f a t g r d n 3 = r ∧ fadd n f a t g r d n 4 = mcc n f g r ∧ fadd n f a t g r d n 5 = d ∧ fadd n f a t g r d n 6 = 0 := by
  refine ⟨?_, ?_, ?_, ?_, ?_, ?_, ?_⟩ <;> simp [fadd, fup]
theorem WF.add {n : Nat} {f : zF} {dep : Nat → Nat} {B B' : Int} (h : WF n f dep B) (hn : n < 24) (hB : B ≤ B') (hB0 : 0 ≤ B') {a t g r d : Int} (ha : ∀ k : Nat, k < n → f k 0 < a) (ht : t = 0 ∨ t = 1) {p : Nat} (hp : p < n) (hg : f p 0 = g) (hp1 : f p 1 = 0) (hr : 0 ≤ r ∧ r ≤ 3) (hd : 0 ≤ d ∧ d ≤ 60) (hd0 : t = 0 → d = 0) : WF (n + 1) (fadd n f a t g r d) (fun j => if j = n then dep p + 1 else dep j) B' := by
  obtain ⟨c0, c1, c2, c3, c4, c5, c6⟩ := fadd_n n f a t g r d
  have hm := mcc_lt (n := n) (f := f) (g := g) (r := r) h.1.1 (fun e => h.root2 hp (e.trans hg.symm))
  obtain ⟨h1, ⟨a0, a1, a2, a3, a4⟩, h3, h4, h5, h6⟩ := h
  have o : ∀ (j : Nat) (w : Int), j < n → fadd n f a t g r d j w = f j w := fun j w hj => fadd_o (by omega) w
  have z : ∀ w : Int, fadd n f a t g r d 0 w = f 0 w := fun w => o 0 w (by omega)
  refine ⟨by omega, ⟨?_, ?_, ?_, ?_, ?_⟩, fun i j hij hj => ?_, fun j hj => ?_, fun j hj1 hj => ?_, ?_⟩
  · rw [z]; exact a0
  · rw [z]; exact a1
  · rw [z]; exact a2
  · rw [z]; exact a3
  · rw [z]; exact a4
  · rw [o i 0 (by omega)]
    by_cases e : j = n
    · subst e; rw [c0]; exact ha i hij
    · rw [o j 0 (by omega)]; exact h3 i j hij (by omega)
  · by_cases e : j = n
    · subst e; rw [c1, c5, c6]; exact ⟨ht, hd, ⟨Int.le_refl _, hB0⟩, fun q => ⟨hd0 q, rfl⟩⟩
    · rw [o j 1 (by omega), o j 5 (by omega), o j 6 (by omega)]
      have := h4 j (by omega)
      exact ⟨this.1, this.2.1, by omega, this.2.2.2⟩
  · by_cases e : j = n
    · subst e
      rw [c2, c3, c4]
      refine ⟨hr, by omega, p, by omega, by rw [o p 0 hp]; exact hg.symm, by rw [o p 1 hp]; exact hp1, ?_⟩
      show (if j = j then dep p + 1 else dep j) = (if p = j then dep p + 1 else dep p) + 1
      rw [if_pos rfl, if_neg (by omega)]
    · rw [o j 2 (by omega), o j 3 (by omega), o j 4 (by omega)]
      obtain ⟨b1, b2, q, hq, b3, b4, b5⟩ := h5 j hj1 (by omega)
      refine ⟨b1, b2, q, by omega, by rw [o q 0 hq]; exact b3, by rw [o q 1 hq]; exact b4, ?_⟩
      show (if j = n then dep p + 1 else dep j) = (if q = n then dep p + 1 else dep q) + 1
      rw [if_neg e, if_neg (by omega)]; exact b5
  · show (if 0 = n then dep p + 1 else dep 0) = 0
    rw [if_neg (by omega)]; exact h6
/-- a node moved -/
theorem flv_4 {n : Nat} {f : zF} {dep : Nat → Nat} {B : Int} (h : WF n f dep B) {k o : Nat} (hk1 : 1 ≤ k) (hk : k < n) (ho1 : 1 ≤ o) (ho : o < n) : 0 ≤ flv f k n o 4 ∧ flv f k n o 4 < 24 := by
  have b1 := (h.2.2.2.2.1 k hk1 hk).2.1
  have b2 := (h.2.2.2.2.1 o ho1 ho).2.1
  unfold flv
  split <;> omega
theorem flv_root {n : Nat} {f : zF} {dep : Nat → Nat} {B : Int} (h : WF n f dep B) {k : Nat} (hk1 : 1 ≤ k) (hk : k < n) (w : Int) : flv f k n 0 w = f 0 w := by
  unfold flv
  obtain ⟨p, hp, e, -, -⟩ := h.par_of hk1 hk
  have := h.root2 hp
  exact if_neg (fun q => this (q.2.2.1.1.trans e))
theorem fmove_o {n : Nat} {f : zF} {k g r o : Int} (ho : o ≠ k) (w : Int) : fmove n f k g r o w = flv f k n o w := by
  unfold fmove fleave fup
  rw [if_neg (fun q => ho q.1), if_neg (fun q => ho q.1), if_neg (fun q => ho q.1), if_neg (fun q => ho q.1)]
theorem fmove_k (n : Nat) (f : zF) (k g r : Int) : fmove n f k g r k 2 = g ∧ fmove n f k g r k 3 = r ∧ fmove n f k g r k 4 = mcc n (fleave n f k) g r ∧ ∀ w : Int, w ≠ 2 → w ≠ 3 → w ≠ 4 → fmove n f k g r k w = f k w := by
  refine ⟨by simp [fmove, fup], by simp [fmove, fup], by simp [fmove, fup], fun w h2 h3 h4 => ?_⟩
  unfold fmove fleave
  rw [show ∀ F : zF, ∀ v : Int, fup F k 4 v k w = F k w from fun F v => if_neg (fun q => h4 q.2), show ∀ F : zF, ∀ v : Int, fup F k 3 v k w = F k w from fun F v => if_neg (fun q => h3 q.2), show ∀ F : zF, ∀ v : Int, fup F k 2 v k w = F k w from fun F v => if_neg (fun q => h2 q.2), show ∀ F : zF, ∀ v : Int, fup F k 2 v k w = F k w from fun F v => if_neg (fun q => h2 q.2)]
  exact flv_ne f k n k h4
theorem WF.mov {n : Nat} {f : zF} {dep : Nat → Nat} {B : Int} (h : WF n f dep B) {k p : Nat} (hk1 : 1 ≤ k) (hk : k < n) (hp : p < n) {g r : Int} (hg : f p 0 = g) (hp1 : f p 1 = 0) (hnb : ¬ Bel n f (f p 0) (f k 0)) (hr : 0 ≤ r ∧ r ≤ 3) : ∃ dep', WF n (fmove n f k g r) dep' B := by
  classical
  obtain ⟨m2, m3, m4, mo⟩ := fmove_k n f k g r
  have hpk : p ≠ k := fun e => hnb (by rw [e]; exact Bel.self _ _ _)
  have o : ∀ (j : Nat) (w : Int), j ≠ k → w ≠ 4 → fmove n f k g r j w = f j w := fun j w hj hw => (fmove_o (by omega) w).trans (flv_ne f k n j hw)
  have o' : ∀ (j : Nat) (w : Int), w ≠ 2 → w ≠ 3 → w ≠ 4 → fmove n f k g r j w = f j w := fun j w a1 a2 a3 => by
    by_cases e : j = k
    · subst e; exact mo w a1 a2 a3
    · exact o j w e a3
  have z : ∀ w : Int, fmove n f k g r 0 w = f 0 w := fun w => (fmove_o (n := n) (by omega) w).trans (flv_root h hk1 hk w)
  have gn := h.num_nn hp
  have hm := mcc_lt (n := n) (f := fleave n f k) (g := g) (r := r) h.1.1 (by
    rw [fleave_2 n f k (by omega)]
    intro e
    exact h.root2 hp (e.trans hg.symm))
  have hroot := h.bel_root hk (by omega)
  have hdk := h.bel_dep hk (by omega)
  refine ⟨fun x => if Bel n f (f x 0) (f k 0) then dep x - dep k + (dep p + 1) else dep x, h.1, ⟨?_, ?_, ?_, ?_, ?_⟩, fun i j hij hj => ?_, fun j hj => ?_, fun j hj1 hj => ?_, ?_⟩
  · rw [z]; exact h.2.1.1
  · rw [z]; exact h.2.1.2.1
  · rw [z]; exact h.2.1.2.2.1
  · rw [z]; exact h.2.1.2.2.2.1
  · rw [z]; exact h.2.1.2.2.2.2
  · rw [o' i 0 (by decide) (by decide) (by decide), o' j 0 (by decide) (by decide) (by decide)]; exact h.2.2.1 i j hij hj
  · rw [o' j 1 (by decide) (by decide) (by decide), o' j 5 (by decide) (by decide) (by decide), o' j 6 (by decide) (by decide) (by decide)]; exact h.2.2.2.1 j hj
  · by_cases e : j = k
    · subst e
      rw [m2, m3, m4]
      refine ⟨hr, by have := h.1.2; omega, p, hp, by rw [o' p 0 (by decide) (by decide) (by decide)]; exact hg.symm, by rw [o' p 1 (by decide) (by decide) (by decide)]; exact hp1, ?_⟩
      show (if Bel n f (f j 0) (f j 0) then dep j - dep j + (dep p + 1) else dep j) = (if Bel n f (f p 0) (f j 0) then dep p - dep j + (dep p + 1) else dep p) + 1
      rw [if_pos (Bel.self _ _ _), if_neg hnb]
      omega
    · rw [o j 2 e (by decide), o j 3 e (by decide), fmove_o (by omega) 4]
      obtain ⟨b1, b2, q, hq, b3, b4, b5⟩ := h.2.2.2.2.1 j hj1 hj
      refine ⟨b1, flv_4 h hk1 hk hj1 hj, q, hq, by rw [o' q 0 (by decide) (by decide) (by decide)]; exact b3, by rw [o' q 1 (by decide) (by decide) (by decide)]; exact b4, ?_⟩
      have hu := h.bel_up hj hk b3 e
      show (if Bel n f (f j 0) (f k 0) then dep j - dep k + (dep p + 1) else dep j) = (if Bel n f (f q 0) (f k 0) then dep q - dep k + (dep p + 1) else dep q) + 1
      by_cases c : Bel n f (f q 0) (f k 0)
      · rw [if_pos c, if_pos (hu.mpr c)]
        have := hdk q hq c
        omega
      · rw [if_neg c, if_neg (fun x => c (hu.mp x))]; exact b5
  · show (if Bel n f (f 0 0) (f k 0) then dep 0 - dep k + (dep p + 1) else dep 0) = 0
    rw [if_neg hroot]; exact h.2.2.2.2.2
/-- nodes taken away -/
theorem gsel (G : Int → Int) : ∀ n : Nat, ∃ sel : Nat → Nat, ∀ i : Nat, (i : Int) < n - gcnt G n → sel i < n ∧ G (sel i) ≠ 1 ∧ (sel i : Int) - gcnt G (sel i) = i := by
  intro n
  induction n with
  | zero => exact ⟨fun _ => 0, fun i hi => by have e : gcnt G 0 = 0 := rfl; omega⟩
  | succ n ih =>
    obtain ⟨sel, hs⟩ := ih
    have e : gcnt G (n + 1) = gcnt G n + (if G n = 1 then 1 else 0) := rfl
    have hb := gcnt_bd G n
    by_cases c : G n = 1
    · rw [if_pos c] at e
      exact ⟨sel, fun i hi => by have := hs i (by omega); exact ⟨by omega, this.2⟩⟩
    · rw [if_neg c] at e
      refine ⟨fun i => if (i : Int) = n - gcnt G n then n else sel i, fun i hi => ?_⟩
      by_cases ci : (i : Int) = n - gcnt G n
      · show (if (i : Int) = n - gcnt G n then n else sel i) < n + 1 ∧ G ((if (i : Int) = n - gcnt G n then n else sel i : Nat) : Int) ≠ 1 ∧ ((if (i : Int) = n - gcnt G n then n else sel i : Nat) : Int) - gcnt G (if (i : Int) = n - gcnt G n then n else sel i) = i
        rw [if_pos ci]
        exact ⟨by omega, c, by omega⟩
      · show (if (i : Int) = n - gcnt G n then n else sel i) < n + 1 ∧ G ((if (i : Int) = n - gcnt G n then n else sel i : Nat) : Int) ≠ 1 ∧ ((if (i : Int) = n - gcnt G n then n else sel i : Nat) : Int) - gcnt G (if (i : Int) = n - gcnt G n then n else sel i) = i
        rw [if_neg ci]
        have := hs i (by omega)
        exact ⟨by omega, this.2⟩
theorem fleave_4 {n : Nat} {f : zF} {k o : Int} (h : o ≠ k) : fleave n f k o 4 = flv f k n o 4 := if_neg (fun g => h g.1)
theorem WF.rem {n : Nat} {f F3 : zF} {dep : Nat → Nat} {B : Int} (h : WF n f dep B) {k : Nat} (hk1 : 1 ≤ k) (hk : k < n) {G : Int → Int} (hG : ∀ j : Nat, j < n → G j = 1 ∧ Bel n f (f j 0) (f k 0) ∨ G j = 0 ∧ ¬ Bel n f (f j 0) (f k 0)) (hF : ∀ j : Nat, j < n → G j ≠ 1 → ∀ w : Int, 0 ≤ w → w < 7 → F3 ((j : Int) - gcnt G j) w = fleave n f k j w) {n' : Nat} (hn' : (n' : Int) = n - gcnt G n) : ∃ dep', WF n' F3 dep' B := by
  obtain ⟨sel, hs⟩ := gsel G n
  have hn := h.1
  have hb := gcnt_bd G n
  have hkB : ∀ j : Nat, j < n → G j ≠ 1 → ¬ Bel n f (f j 0) (f k 0) := fun j hj g => by rcases hG j hj with c | c; exact absurd c.1 g; exact c.2
  have hkne : ∀ j : Nat, j < n → G j ≠ 1 → j ≠ k := fun j hj g e => hkB j hj g (by rw [e]; exact Bel.self _ _ _)
  have hS : ∀ i : Nat, i < n' → sel i < n ∧ G (sel i) ≠ 1 ∧ (sel i : Int) - gcnt G (sel i) = i := fun i hi => hs i (by omega)
  have hF2 : ∀ (i : Nat) (w : Int), i < n' → 0 ≤ w → w < 7 → F3 i w = fleave n f k (sel i) w := fun i w hi h1 h2 => by
    have a := hS i hi
    rw [← a.2.2]
    exact hF (sel i) a.1 a.2.1 w h1 h2
  have hk9 : ∀ i : Nat, i < n' → ((sel i : Nat) : Int) ≠ k := fun i hi e => hkne (sel i) (hS i hi).1 (hS i hi).2.1 (by omega)
  have hF3 : ∀ (i : Nat) (w : Int), i < n' → 0 ≤ w → w < 7 → w ≠ 4 → F3 i w = f (sel i) w := fun i w hi h1 h2 h4 => (hF2 i w hi h1 h2).trans (fleave_3 n f k (hk9 i hi) w h4)
  have hF4 : ∀ i : Nat, i < n' → F3 i 4 = flv f k n (sel i) 4 := fun i hi => (hF2 i 4 hi (by omega) (by omega)).trans (fleave_4 (hk9 i hi))
  have hG0 : G (0 : Nat) ≠ 1 := fun e => by
    rcases hG 0 (by omega) with c | c
    · exact h.bel_root hk (by omega) c.2
    · omega
  have hn0 : 1 ≤ n' := by
    have := gcnt_lt (G := G) (j := 0) (m := n) (by omega) hG0
    have e0 : gcnt G 0 = 0 := rfl
    omega
  have inv : ∀ j : Nat, j < n → G j ≠ 1 → ∃ i : Nat, i < n' ∧ sel i = j := fun j hj g => by
    have h1 := gcnt_lt (G := G) hj g
    have h2 := gcnt_bd G j
    have a := hS ((j : Int) - gcnt G j).toNat (by omega)
    refine ⟨((j : Int) - gcnt G j).toNat, by omega, ?_⟩
    rcases Nat.lt_trichotomy (sel ((j : Int) - gcnt G j).toNat) j with c | c | c
    · have := gcnt_lt (G := G) c a.2.1; omega
    · exact c
    · have := gcnt_lt (G := G) c g; omega
  have s0 : sel 0 = 0 := by
    obtain ⟨i, hi, e⟩ := inv 0 (by omega) hG0
    have a := hS i hi
    rw [e] at a
    have e0 : gcnt G 0 = 0 := rfl
    have : i = 0 := by omega
    rw [this] at e
    exact e
  have z : ∀ w : Int, 0 ≤ w → w < 7 → F3 0 w = f 0 w := fun w h1 h2 => by
    have a := hF2 0 w (by omega) h1 h2
    rw [s0] at a
    by_cases c : w = 2
    · subst c; exact a.trans (fleave_2 n f k (by omega))
    · exact a.trans ((if_neg (fun q => c q.2)).trans (flv_root h hk1 hk w))
  refine ⟨fun i => dep (sel i), by omega, ⟨?_, ?_, ?_, ?_, ?_⟩, fun i j hij hj => ?_, fun j hj => ?_, fun j hj1 hj => ?_, ?_⟩
  · rw [z _ (by omega) (by omega)]; exact h.2.1.1
  · rw [z _ (by omega) (by omega)]; exact h.2.1.2.1
  · rw [z _ (by omega) (by omega)]; exact h.2.1.2.2.1
  · rw [z _ (by omega) (by omega)]; exact h.2.1.2.2.2.1
  · rw [z _ (by omega) (by omega)]; exact h.2.1.2.2.2.2
  · rw [hF3 i 0 (by omega) (by omega) (by omega) (by omega), hF3 j 0 hj (by omega) (by omega) (by omega)]
    have a := hS i (by omega)
    have b := hS j hj
    refine h.2.2.1 _ _ ?_ b.1
    rcases Nat.lt_trichotomy (sel i) (sel j) with c | c | c
    · exact c
    · rw [c] at a; omega
    · have := gcnt_lt (G := G) c b.2.1; omega
  · rw [hF3 j 1 hj (by omega) (by omega) (by omega), hF3 j 5 hj (by omega) (by omega) (by omega), hF3 j 6 hj (by omega) (by omega) (by omega)]
    exact h.2.2.2.1 _ (hS j hj).1
  · have a := hS j hj
    have sj1 : 1 ≤ sel j := by
      rcases Nat.eq_zero_or_pos (sel j) with c | c
      · rw [c] at a; have e0 : gcnt G 0 = 0 := rfl; omega
      · exact c
    rw [hF3 j 2 hj (by omega) (by omega) (by omega), hF3 j 3 hj (by omega) (by omega) (by omega), hF4 j hj]
    obtain ⟨b1, b2, q, hq, b3, b4, b5⟩ := h.2.2.2.2.1 (sel j) sj1 a.1
    have hqG : G q ≠ 1 := fun e => by
      rcases hG q hq with c | c
      · exact hkB (sel j) a.1 a.2.1 ((h.bel_up a.1 hk b3 (hkne _ a.1 a.2.1)).mpr c.2)
      · omega
    obtain ⟨i, hi, ei⟩ := inv q hq hqG
    refine ⟨b1, flv_4 h hk1 hk sj1 a.1, i, hi, ?_, ?_, ?_⟩
    · rw [hF3 i 0 hi (by omega) (by omega) (by omega), ei]; exact b3
    · rw [hF3 i 1 hi (by omega) (by omega) (by omega), ei]; exact b4
    · show dep (sel j) = dep (sel i) + 1
      rw [ei]; exact b5
  · show dep (sel 0) = 0
    rw [s0]; exact h.2.2.2.2.2
