/-! ===== sums ===== -/
theorem zsum_congr {g g' : Int → Int} : ∀ {m : Nat}, (∀ k : Nat, k < m → g k = g' k) → zsum g m = zsum g' m := by
  intro m
  induction m with
  | zero => intro _; rfl
  | succ m ih =>
    intro h
    show zsum g m + g m = zsum g' m + g' m
    rw [ih (fun k hk => h k (by omega)), h m (by omega)]
theorem zsum_le {g g' : Int → Int} : ∀ {m : Nat}, (∀ k : Nat, k < m → g k ≤ g' k) → zsum g m ≤ zsum g' m := by
  intro m
  induction m with
  | zero => intro _; exact Int.le_refl _
  | succ m ih =>
    intro h
    show zsum g m + g m ≤ zsum g' m + g' m
    have h1 := ih (fun k hk => h k (by omega))
    have h2 := h m (by omega)
    omega
theorem zsum_0 : ∀ (m : Nat), zsum (fun _ => 0) m = 0 := by
  intro m
  induction m with
  | zero => rfl
  | succ m ih =>
    show zsum (fun _ => 0) m + 0 = 0
    omega
theorem zsum_nn {g : Int → Int} {m : Nat} (h : ∀ k : Nat, k < m → 0 ≤ g k) : 0 ≤ zsum g m := by
  have h1 : zsum (fun _ => 0) m ≤ zsum g m := zsum_le h
  rw [zsum_0] at h1
  exact h1
theorem zsum_add (g g' : Int → Int) : ∀ (m : Nat), zsum (fun k => g k + g' k) m = zsum g m + zsum g' m := by
  intro m
  induction m with
  | zero => rfl
  | succ m ih =>
    show zsum (fun k => g k + g' k) m + (g m + g' m) = (zsum g m + g m) + (zsum g' m + g' m)
    omega
theorem zsum_up {g : Int → Int} {m n : Nat} (hmn : m ≤ n) (h : ∀ k : Nat, k < n → 0 ≤ g k) : zsum g m ≤ zsum g n := by
  induction n with
  | zero => have : m = 0 := by omega
            subst this; exact Int.le_refl _
  | succ n ih =>
    by_cases he : m = n + 1
    · subst he; exact Int.le_refl _
    · have h1 := ih (by omega) (fun k hk => h k (by omega))
      have h2 := h n (by omega)
      show zsum g m ≤ zsum g n + g n
      omega
theorem zsum_at {g : Int → Int} {n k : Nat} (hk : k < n) (h : ∀ j : Nat, j < n → 0 ≤ g j) : g k ≤ zsum g n := by
  have h1 := zsum_up (m := k + 1) (n := n) (by omega) h
  have h2 : zsum g (k + 1) = zsum g k + g k := rfl
  have h3 := zsum_nn (m := k) (fun j hj => h j (by omega))
  omega
theorem zsum_swap (g : Int → Int → Int) : ∀ (n m : Nat), zsum (fun i => zsum (fun j => g i j) m) n = zsum (fun j => zsum (fun i => g i j) n) m := by
  intro n
  induction n with
  | zero => intro m; exact (zsum_0 m).symm
  | succ n ih =>
    intro m
    show zsum (fun i => zsum (fun j => g i j) m) n + zsum (fun j => g n j) m = zsum (fun j => zsum (fun i => g i j) n + g n j) m
    rw [ih, zsum_add]
theorem zsum_none {g : Int → Int} {m : Nat} (h : ∀ k : Nat, k < m → g k = 0) : zsum g m = 0 := (zsum_congr h).trans (zsum_0 m)
theorem zsum_one {g : Int → Int} {m a : Nat} (ha : a < m) (h : ∀ k : Nat, k < m → k ≠ a → g k = 0) : zsum g m = g a := by
  induction m with
  | zero => omega
  | succ m ih =>
    show zsum g m + g m = g a
    by_cases he : a = m
    · subst he
      rw [zsum_none (fun k hk => h k (by omega) (by omega))]
      omega
    · rw [ih (by omega) (fun k hk hne => h k (by omega) hne), h m (by omega) (fun e => he e.symm)]
      omega
/-- at most one place counts -/
theorem zsum_most {g : Int → Int} {m : Nat} {v : Int} (hv : 0 ≤ v) (h0 : ∀ k : Nat, k < m → g k = 0 ∨ g k = v) (h1 : ∀ j k : Nat, j < m → k < m → g j ≠ 0 → g k ≠ 0 → j = k) : zsum g m ≤ v := by
  by_cases he : ∃ a : Nat, a < m ∧ g a ≠ 0
  · obtain ⟨a, ha, hga⟩ := he
    rw [zsum_one ha (fun k hk hne => Classical.byContradiction fun hg => hne (h1 k a hk ha hg hga))]
    rcases h0 a ha with e | e <;> omega
  · rw [zsum_none (fun k hk => Classical.byContradiction fun hg => he ⟨k, hk, hg⟩)]
    exact hv
/-! a bijection of the places keeps the sum -/
theorem zpig : ∀ (n m : Nat) (f : Nat → Nat), (∀ i, i < m → f i < n) → (∀ i j, i < m → j < m → f i = f j → i = j) → m ≤ n := by
  intro n
  induction n with
  | zero =>
    intro m f h _
    by_cases hm : m = 0
    · omega
    · exact absurd (h 0 (by omega)) (Nat.not_lt_zero _)
  | succ n ih =>
    intro m f h hi
    by_cases he : ∃ a, a < m ∧ f a = n
    · obtain ⟨a, ha, hfa⟩ := he
      have h2 := ih (m - 1) (fun i => if i < a then f i else f (i + 1)) ?_ ?_
      · omega
      · intro i hi2
        split
        · have h3 := h i (by omega)
          have h4 : f i ≠ n := fun e => by
            have := hi i a (by omega) ha (by omega)
            omega
          omega
        · have h3 := h (i + 1) (by omega)
          have h4 : f (i + 1) ≠ n := fun e => by
            have := hi (i + 1) a (by omega) ha (by omega)
            omega
          omega
      · intro i j hi2 hj2 e
        split at e <;> split at e
        · exact hi _ _ (by omega) (by omega) e
        · have := hi _ _ (by omega) (by omega) e; omega
        · have := hi _ _ (by omega) (by omega) e; omega
        · have := hi _ _ (by omega) (by omega) e; omega
    · have h2 := ih m f (fun i hi2 => by
        have h3 := h i hi2
        have h4 : f i ≠ n := fun e => he ⟨i, hi2, e⟩
        omega) hi
      omega
/-- an injection of a row of places into itself hits each of them -/
theorem zonto {n : Nat} {f : Nat → Nat} (h : ∀ i, i < n → f i < n) (hi : ∀ i j, i < n → j < n → f i = f j → i = j) : ∀ y, y < n → ∃ i, i < n ∧ f i = y := by
  intro y hy
  apply Classical.byContradiction
  intro hno
  have h1 := zpig n (n + 1) (fun i => if i < n then f i else y) (fun i hi2 => by
    split
    · exact h i (by assumption)
    · exact hy) (fun i j hi2 hj2 e => by
    split at e <;> split at e
    · exact hi _ _ (by assumption) (by assumption) e
    · exact absurd ⟨i, by assumption, e⟩ hno
    · exact absurd ⟨j, by assumption, e.symm⟩ hno
    · omega)
  omega
theorem zsum_bij {n : Nat} {f : Nat → Nat} (h : ∀ i, i < n → f i < n) (hi : ∀ i j, i < n → j < n → f i = f j → i = j) (g : Int → Int) : zsum (fun i => g (f i.toNat)) n = zsum g n := by
  have e1 : zsum (fun i => g (f i.toNat)) n = zsum (fun i => zsum (fun j => if (f i.toNat : Int) = j then g j else 0) n) n := by
    refine zsum_congr fun i hi2 => ?_
    have e2 := zsum_one (g := fun j => if (f i : Int) = j then g j else 0) (h i hi2) (fun k hk hne => if_neg (fun e => hne (by omega)))
    simp only [Int.toNat_natCast]
    rw [e2]
    simp
  rw [e1, zsum_swap]
  refine zsum_congr fun j hj => ?_
  obtain ⟨a, ha, hfa⟩ := zonto h hi j hj
  rw [zsum_one ha (fun k hk hne => if_neg (fun e => hne (hi k a hk ha (by simp at e; omega))))]
  simp [hfa]
/-! ===== the plan of a tree: nodes by their places 0 .. n - 1 in the order of their numbers; f k w: 0 number, 1 is a task, 2 group, 3 row, 4 place in the row, 5 duration, 6 reserve ===== -/
abbrev zF : Type := Int → Int → Int
def zmx (a v : Int) : Int := if a < v then v else a
theorem zmx_l (a v : Int) : a ≤ zmx a v := by unfold zmx; split <;> omega
theorem zmx_r (a v : Int) : v ≤ zmx a v := by unfold zmx; split <;> omega
theorem zmx_le {a v b : Int} (h1 : a ≤ b) (h2 : v ≤ b) : zmx a v ≤ b := by unfold zmx; split <;> assumption
/-- the length of a row, the greatest length of the rows of a group -/
def mrl (n : Nat) (f : zF) (len : Int → Int) (g r : Int) : Int := zsum (fun k => if f k 2 = g ∧ f k 3 = r then len k else 0) n
def mlg (n : Nat) (f : zF) (len : Int → Int) (g : Int) : Int := zmx (zmx (zmx (zmx 0 (mrl n f len g 0)) (mrl n f len g 1)) (mrl n f len g 2)) (mrl n f len g 3)
def mln (n : Nat) (f : zF) (len : Int → Int) (k : Int) : Int := if f k 1 = 1 then f k 5 + f k 6 else mlg n f len (f k 0)
/-- what stands ahead in the row -/
def mah (n : Nat) (f : zF) (len : Int → Int) (k : Int) : Int := zsum (fun o => if (f o 2 = f k 2 ∧ f o 3 = f k 3) ∧ f o 4 < f k 4 then len o else 0) n
def IsLen (n : Nat) (f : zF) (len : Int → Int) : Prop := ∀ k : Nat, k < n → len k = mln n f len k
def IsTm (n : Nat) (f : zF) (len st sl dp : Int → Int) : Prop := st 0 = 0 ∧ sl 0 = 0 ∧ dp 0 = 0 ∧ ∀ k p : Nat, 1 ≤ k → k < n → p < n → f k 2 = f p 0 → st k = st p + mah n f len k ∧ sl k = sl p + (len p - mrl n f len (f k 2) (f k 3)) ∧ dp k = dp p + 1
/-- a tree: the root first, numbers that rise, each other node in a group that is there, no circle -/
def WF (n : Nat) (f : zF) (dep : Nat → Nat) (B : Int) : Prop :=
  (1 ≤ n ∧ n ≤ 24) ∧ (f 0 0 = 0 ∧ f 0 1 = 0 ∧ f 0 2 = -1 ∧ f 0 3 = -1 ∧ f 0 4 = -1) ∧ (∀ i j : Nat, i < j → j < n → f i 0 < f j 0) ∧
  (∀ k : Nat, k < n → (f k 1 = 0 ∨ f k 1 = 1) ∧ (0 ≤ f k 5 ∧ f k 5 ≤ 60) ∧ (0 ≤ f k 6 ∧ f k 6 ≤ B) ∧ (f k 1 = 0 → f k 5 = 0 ∧ f k 6 = 0)) ∧
  (∀ k : Nat, 1 ≤ k → k < n → (0 ≤ f k 3 ∧ f k 3 ≤ 3) ∧ (0 ≤ f k 4 ∧ f k 4 < 24) ∧ ∃ p : Nat, p < n ∧ f k 2 = f p 0 ∧ f p 1 = 0 ∧ dep k = dep p + 1) ∧ dep 0 = 0
theorem WF.num_inj {n : Nat} {f : zF} {dep : Nat → Nat} {B : Int} (h : WF n f dep B) {i j : Nat} (hi : i < n) (hj : j < n) (e : f i 0 = f j 0) : i = j := by
  rcases Nat.lt_trichotomy i j with g | g | g
  · have := h.2.2.1 i j g hj; omega
  · exact g
  · have := h.2.2.1 j i g hi; omega
theorem WF.num_nn {n : Nat} {f : zF} {dep : Nat → Nat} {B : Int} (h : WF n f dep B) {i : Nat} (hi : i < n) : 0 ≤ f i 0 := by
  by_cases e : i = 0
  · subst e; have := h.2.1.1; simp at this ⊢; omega
  · have h1 := h.2.2.1 0 i (by omega) hi
    have h2 := h.2.1.1
    simp at h1
    omega
theorem WF.root2 {n : Nat} {f : zF} {dep : Nat → Nat} {B : Int} (h : WF n f dep B) {p : Nat} (hp : p < n) : f 0 2 ≠ f p 0 := by
  have h1 := h.num_nn hp
  have h2 := h.2.1.2.2.1
  omega
/-- if the children of each place of depth j + 1 and more agree, so does the place -/
theorem mln_congr {n : Nat} {f : zF} {dep : Nat → Nat} {B : Int} (h : WF n f dep B) {a b : Int → Int} {k : Nat} (hk : k < n) (hc : ∀ c : Nat, 1 ≤ c → c < n → f c 2 = f k 0 → a c = b c) : mln n f a k = mln n f b k := by
  have e : ∀ r, mrl n f a (f k 0) r = mrl n f b (f k 0) r := fun r => zsum_congr fun c hcn => by
    by_cases g : f c 2 = f k 0 ∧ f c 3 = r
    · rw [if_pos g, if_pos g]
      refine hc c ?_ hcn g.1
      rcases Nat.eq_zero_or_pos c with e0 | e0
      · subst e0; exact absurd g.1 (h.root2 hk)
      · exact e0
    · rw [if_neg g, if_neg g]
  unfold mln mlg
  rw [e 0, e 1, e 2, e 3]
theorem WF.dep_c {n : Nat} {f : zF} {dep : Nat → Nat} {B : Int} (h : WF n f dep B) {k c : Nat} (hk : k < n) (hc1 : 1 ≤ c) (hc : c < n) (e : f c 2 = f k 0) : dep c = dep k + 1 := by
  obtain ⟨-, -, p, hp, e1, -, e2⟩ := h.2.2.2.2.1 c hc1 hc
  have := h.num_inj hp hk (e1.symm.trans e)
  rw [e2, this]
def depMax (dep : Nat → Nat) : Nat → Nat
  | 0 => 0
  | m + 1 => max (depMax dep m) (dep m)
theorem depMax_le (dep : Nat → Nat) : ∀ {m k : Nat}, k < m → dep k ≤ depMax dep m := by
  intro m
  induction m with
  | zero => intro k hk; omega
  | succ m ih =>
    intro k hk
    show dep k ≤ max (depMax dep m) (dep m)
    by_cases e : k = m
    · subst e; exact Nat.le_max_right _ _
    · exact Nat.le_trans (ih (by omega)) (Nat.le_max_left _ _)
/-- from the leaves up -/
theorem WF.up {n : Nat} {f : zF} {dep : Nat → Nat} {B : Int} (h : WF n f dep B) {P : Nat → Prop} (hs : ∀ k : Nat, k < n → (∀ c : Nat, 1 ≤ c → c < n → f c 2 = f k 0 → P c) → P k) : ∀ k : Nat, k < n → P k := by
  have key : ∀ (F k : Nat), k < n → depMax dep n - dep k < F → P k := by
    intro F
    induction F with
    | zero => intro k _ hF; omega
    | succ F ih =>
      intro k hk hF
      refine hs k hk fun c hc1 hc e => ih c hc ?_
      have h1 := h.dep_c hk hc1 hc e
      have h2 := depMax_le dep hc
      omega
  intro k hk
  exact key (depMax dep n - dep k + 1) k hk (by omega)
/-- from the root down -/
theorem WF.down {n : Nat} {f : zF} {dep : Nat → Nat} {B : Int} (h : WF n f dep B) {P : Nat → Prop} (h0 : P 0) (hs : ∀ k p : Nat, 1 ≤ k → k < n → p < n → f k 2 = f p 0 → P p → P k) : ∀ k : Nat, k < n → P k := by
  have key : ∀ (F k : Nat), k < n → dep k < F → P k := by
    intro F
    induction F with
    | zero => intro k _ hF; omega
    | succ F ih =>
      intro k hk hF
      rcases Nat.eq_zero_or_pos k with e0 | e0
      · subst e0; exact h0
      · obtain ⟨-, -, p, hp, e1, -, e2⟩ := h.2.2.2.2.1 k e0 hk
        exact hs k p e0 hk hp e1 (ih p hp (by omega))
  intro k hk
  exact key (dep k + 1) k hk (by omega)
/-- one plan at the most -/
theorem IsLen.uniq {n : Nat} {f : zF} {dep : Nat → Nat} {B : Int} (h : WF n f dep B) {a b : Int → Int} (ha : IsLen n f a) (hb : IsLen n f b) : ∀ k : Nat, k < n → a k = b k :=
  h.up fun k hk hc => by rw [ha k hk, hb k hk]; exact mln_congr h hk hc
theorem mrl_congr {n : Nat} {f : zF} {a b : Int → Int} (hab : ∀ k : Nat, k < n → a k = b k) (g r : Int) : mrl n f a g r = mrl n f b g r := zsum_congr fun k hk => by rw [hab k hk]
theorem mah_congr {n : Nat} {f : zF} {a b : Int → Int} (hab : ∀ k : Nat, k < n → a k = b k) (k : Int) : mah n f a k = mah n f b k := zsum_congr fun o ho => by rw [hab o ho]
theorem IsTm.uniq {n : Nat} {f : zF} {dep : Nat → Nat} {B : Int} (h : WF n f dep B) {a b st sl dp st' sl' dp' : Int → Int} (hab : ∀ k : Nat, k < n → a k = b k) (h1 : IsTm n f a st sl dp) (h2 : IsTm n f b st' sl' dp') : ∀ k : Nat, k < n → st k = st' k ∧ sl k = sl' k ∧ dp k = dp' k := by
  refine h.down ⟨?_, ?_, ?_⟩ fun k p hk1 hk hp e ih => ?_
  · exact h1.1.trans h2.1.symm
  · exact h1.2.1.trans h2.2.1.symm
  · exact h1.2.2.1.trans h2.2.2.1.symm
  · obtain ⟨a1, a2, a3⟩ := h1.2.2.2 k p hk1 hk hp e
    obtain ⟨b1, b2, b3⟩ := h2.2.2.2 k p hk1 hk hp e
    rw [a1, a2, a3, b1, b2, b3, ih.1, ih.2.1, ih.2.2, mah_congr hab, mrl_congr hab, hab p hp]
    exact ⟨rfl, rfl, rfl⟩
/-- a plan there is -/
def lenF (n : Nat) (f : zF) : Nat → Int → Int
  | 0, _ => 0
  | F + 1, k => mln n f (lenF n f F) k
theorem lenF_st {n : Nat} {f : zF} {dep : Nat → Nat} {B : Int} (h : WF n f dep B) : ∀ (F k : Nat), k < n → depMax dep n - dep k < F → lenF n f F k = lenF n f (F + 1) k := by
  intro F
  induction F with
  | zero => intro k _ hF; omega
  | succ F ih =>
    intro k hk hF
    refine mln_congr h hk fun c hc1 hc e => ih c hc ?_
    have h1 := h.dep_c hk hc1 hc e
    have h2 := depMax_le dep hc
    omega
theorem lenF_ok {n : Nat} {f : zF} {dep : Nat → Nat} {B : Int} (h : WF n f dep B) : IsLen n f (lenF n f (depMax dep n + 1)) := fun k hk => by
  rw [lenF_st h _ k hk (by omega)]
  rfl
/-- something that grows from the group to the child by a given amount -/
def accF (n : Nat) (f : zF) (inc : Int → Int) : Nat → Int → Int
  | 0, _ => 0
  | F + 1, k => if k = 0 then 0 else accF n f inc F (zfnd (fun j => f j 0) (f k 2) n) + inc k
theorem WF.par {n : Nat} {f : zF} {dep : Nat → Nat} {B : Int} (h : WF n f dep B) {p : Nat} {x : Int} (hp : p < n) (e : f p 0 = x) : zfnd (fun j => f j 0) x n = p := zfnd_at hp e (fun j hj e2 => by
  have := h.2.2.1 j p hj hp
  have e3 : f j 0 = x := e2
  omega)
theorem accF_st {n : Nat} {f : zF} {dep : Nat → Nat} {B : Int} (h : WF n f dep B) (inc : Int → Int) : ∀ (F k : Nat), k < n → dep k < F → accF n f inc F k = accF n f inc (F + 1) k := by
  intro F
  induction F with
  | zero => intro k _ hF; omega
  | succ F ih =>
    intro k hk hF
    show (if (k : Int) = 0 then 0 else accF n f inc F (zfnd (fun j => f j 0) (f k 2) n) + inc k) = (if (k : Int) = 0 then 0 else accF n f inc (F + 1) (zfnd (fun j => f j 0) (f k 2) n) + inc k)
    by_cases e0 : (k : Int) = 0
    · rw [if_pos e0, if_pos e0]
    · rw [if_neg e0, if_neg e0]
      obtain ⟨-, -, p, hp, e1, -, e2⟩ := h.2.2.2.2.1 k (by omega) hk
      rw [h.par hp e1.symm, ih p hp (by omega)]
theorem acc_ok {n : Nat} {f : zF} {dep : Nat → Nat} {B : Int} (h : WF n f dep B) (inc : Int → Int) : ∃ a : Int → Int, a 0 = 0 ∧ ∀ k p : Nat, 1 ≤ k → k < n → p < n → f k 2 = f p 0 → a k = a p + inc k := by
  refine ⟨accF n f inc (depMax dep n + 1), rfl, fun k p hk1 hk hp e => ?_⟩
  have h1 := depMax_le dep hk
  rw [accF_st h inc _ k hk (by omega)]
  show (if (k : Int) = 0 then 0 else accF n f inc (depMax dep n + 1) (zfnd (fun j => f j 0) (f k 2) n) + inc k) = _
  rw [if_neg (by omega), h.par hp e.symm]
/-! bounds -/
def mtot (n : Nat) (f : zF) : Int := zsum (fun k => f k 5 + f k 6) n
def wgtF (n : Nat) (f : zF) : Nat → Int → Int
  | 0, _ => 0
  | F + 1, k => (f k 5 + f k 6) + zsum (fun c => if f c 2 = f k 0 then wgtF n f F c else 0) n
theorem wgtF_nn {n : Nat} {f : zF} {dep : Nat → Nat} {B : Int} (h : WF n f dep B) : ∀ (F k : Nat), k < n → 0 ≤ wgtF n f F k := by
  intro F
  induction F with
  | zero => intro k _; exact Int.le_refl _
  | succ F ih =>
    intro k hk
    have h1 := h.2.2.2.1 k hk
    have h2 : 0 ≤ zsum (fun c => if f c 2 = f k 0 then wgtF n f F c else 0) n := zsum_nn fun c hc => by
      split
      · exact ih c hc
      · exact Int.le_refl _
    show 0 ≤ (f k 5 + f k 6) + zsum (fun c => if f c 2 = f k 0 then wgtF n f F c else 0) n
    omega
theorem wgtF_lvl {n : Nat} {f : zF} {dep : Nat → Nat} {B : Int} (h : WF n f dep B) : ∀ (F j : Nat), zsum (fun k => if dep k.toNat = j then wgtF n f F k else 0) n ≤ zsum (fun k => if j ≤ dep k.toNat then f k 5 + f k 6 else 0) n := by
  intro F
  induction F with
  | zero =>
    intro j
    refine zsum_le fun k hk => ?_
    have h1 := h.2.2.2.1 k hk
    have e : wgtF n f 0 k = 0 := rfl
    rw [e]
    split <;> split <;> omega
  | succ F ih =>
    intro j
    have e1 : zsum (fun k => if dep k.toNat = j then wgtF n f (F + 1) k else 0) n = zsum (fun k => if dep k.toNat = j then f k 5 + f k 6 else 0) n + zsum (fun k => zsum (fun c => if dep k.toNat = j ∧ f c 2 = f k 0 then wgtF n f F c else 0) n) n := by
      rw [← zsum_add]
      refine zsum_congr fun k hk => ?_
      by_cases hj : dep (k : Int).toNat = j
      · rw [if_pos hj, if_pos hj]
        show (f k 5 + f k 6) + _ = _
        congr 1
        refine zsum_congr fun c hc => ?_
        by_cases e : f c 2 = f k 0
        · rw [if_pos e, if_pos ⟨hj, e⟩]
        · rw [if_neg e, if_neg (fun g => e g.2)]
      · rw [if_neg hj, if_neg hj, zsum_none (fun c hc => if_neg (fun g => hj g.1))]
        rfl
    have e2 : zsum (fun k => zsum (fun c => if dep k.toNat = j ∧ f c 2 = f k 0 then wgtF n f F c else 0) n) n ≤ zsum (fun c => if dep c.toNat = j + 1 then wgtF n f F c else 0) n := by
      rw [zsum_swap]
      refine zsum_le fun c hc => ?_
      have hw := wgtF_nn h F c hc
      by_cases hd : dep c = j + 1
      · rw [if_pos (by simpa using hd)]
        refine zsum_most hw (fun k hk => ?_) (fun a b ha hb ga gb => ?_)
        · split
          · exact Or.inr rfl
          · exact Or.inl rfl
        · have a1 : f c 2 = f a 0 := by
            apply Classical.byContradiction
            intro g
            exact ga (if_neg (fun q => g q.2))
          have b1 : f c 2 = f b 0 := by
            apply Classical.byContradiction
            intro g
            exact gb (if_neg (fun q => g q.2))
          exact h.num_inj ha hb (a1.symm.trans b1)
      · have hz : zsum (fun k => if dep k.toNat = j ∧ f c 2 = f k 0 then wgtF n f F c else 0) n = 0 := by
          refine zsum_none (fun k hk => if_neg (fun g => ?_))
          rcases Nat.eq_zero_or_pos c with e0 | e0
          · subst e0; exact h.root2 hk g.2
          · have := h.dep_c hk e0 hc g.2
            have h3 := g.1
            simp at h3
            omega
        rw [if_neg (by simpa using hd), hz]
        exact Int.le_refl _
    have e3 := ih (j + 1)
    have e4 : zsum (fun k => if j ≤ dep k.toNat then f k 5 + f k 6 else 0) n = zsum (fun k => if dep k.toNat = j then f k 5 + f k 6 else 0) n + zsum (fun k => if j + 1 ≤ dep k.toNat then f k 5 + f k 6 else 0) n := by
      rw [← zsum_add]
      refine zsum_congr fun k hk => ?_
      by_cases g1 : dep (k : Int).toNat = j
      · rw [if_pos (by omega), if_pos g1, if_neg (by omega)]; omega
      · by_cases g2 : j ≤ dep (k : Int).toNat
        · rw [if_pos g2, if_neg g1, if_pos (by omega)]; omega
        · rw [if_neg g2, if_neg g1, if_neg (by omega)]; omega
    rw [e1, e4]
    omega
theorem wgtF_tot {n : Nat} {f : zF} {dep : Nat → Nat} {B : Int} (h : WF n f dep B) (F k : Nat) (hk : k < n) : wgtF n f F k ≤ mtot n f := by
  have h1 := wgtF_lvl h F (dep k)
  have h2 : wgtF n f F k ≤ zsum (fun j => if dep j.toNat = dep k then wgtF n f F j else 0) n := by
    have h3 := zsum_at (g := fun j => if dep j.toNat = dep k then wgtF n f F j else 0) hk (fun j hj => by
      have := wgtF_nn h F j hj
      split <;> omega)
    simp at h3
    exact h3
  have h4 : zsum (fun j => if dep k ≤ dep j.toNat then f j 5 + f j 6 else 0) n ≤ mtot n f := zsum_le fun j hj => by
    have := h.2.2.2.1 j hj
    split <;> omega
  omega
theorem lenF_wgt {n : Nat} {f : zF} {dep : Nat → Nat} {B : Int} (h : WF n f dep B) : ∀ (F k : Nat), k < n → 0 ≤ lenF n f F k ∧ lenF n f F k ≤ wgtF n f F k := by
  intro F
  induction F with
  | zero => intro k _; exact ⟨Int.le_refl _, Int.le_refl _⟩
  | succ F ih =>
    intro k hk
    have h1 := h.2.2.2.1 k hk
    have hc : 0 ≤ zsum (fun c => if f c 2 = f k 0 then wgtF n f F c else 0) n := zsum_nn fun c hc => by
      split
      · exact wgtF_nn h F c hc
      · exact Int.le_refl _
    have hr : ∀ r, mrl n f (lenF n f F) (f k 0) r ≤ zsum (fun c => if f c 2 = f k 0 then wgtF n f F c else 0) n := fun r => zsum_le fun c hc => by
      have := ih c hc
      by_cases g : f c 2 = f k 0
      · rw [if_pos g]
        split <;> omega
      · rw [if_neg g, if_neg (fun q => g q.1)]
        exact Int.le_refl _
    show 0 ≤ mln n f (lenF n f F) k ∧ mln n f (lenF n f F) k ≤ (f k 5 + f k 6) + zsum (fun c => if f c 2 = f k 0 then wgtF n f F c else 0) n
    unfold mln
    split
    · omega
    · constructor
      · unfold mlg
        have a1 := zmx_l 0 (mrl n f (lenF n f F) (f k 0) 0)
        have a2 := zmx_l (zmx 0 (mrl n f (lenF n f F) (f k 0) 0)) (mrl n f (lenF n f F) (f k 0) 1)
        have a3 := zmx_l (zmx (zmx 0 (mrl n f (lenF n f F) (f k 0) 0)) (mrl n f (lenF n f F) (f k 0) 1)) (mrl n f (lenF n f F) (f k 0) 2)
        have a4 := zmx_l (zmx (zmx (zmx 0 (mrl n f (lenF n f F) (f k 0) 0)) (mrl n f (lenF n f F) (f k 0) 1)) (mrl n f (lenF n f F) (f k 0) 2)) (mrl n f (lenF n f F) (f k 0) 3)
        omega
      · have h3 : mlg n f (lenF n f F) (f k 0) ≤ zsum (fun c => if f c 2 = f k 0 then wgtF n f F c else 0) n := zmx_le (zmx_le (zmx_le (zmx_le hc (hr 0)) (hr 1)) (hr 2)) (hr 3)
        omega
theorem IsLen.bd {n : Nat} {f : zF} {dep : Nat → Nat} {B : Int} (h : WF n f dep B) {len : Int → Int} (hl : IsLen n f len) : ∀ k : Nat, k < n → 0 ≤ len k ∧ len k ≤ mtot n f := fun k hk => by
  rw [hl.uniq h (lenF_ok h) k hk]
  have h1 := lenF_wgt h (depMax dep n + 1) k hk
  have h2 := wgtF_tot h (depMax dep n + 1) k hk
  omega
theorem mtot_le {n : Nat} {f : zF} {dep : Nat → Nat} {B : Int} (h : WF n f dep B) : 0 ≤ mtot n f ∧ mtot n f ≤ 24 * (60 + B) := by
  constructor
  · exact zsum_nn fun k hk => by have := h.2.2.2.1 k hk; omega
  · have h1 : ∀ m : Nat, m ≤ n → zsum (fun k => f k 5 + f k 6) m ≤ m * (60 + B) := by
      intro m
      induction m with
      | zero => intro _; simp [zsum]
      | succ m ih =>
        intro hm
        have h2 := ih (by omega)
        have h3 := h.2.2.2.1 m (by omega)
        show zsum (fun k => f k 5 + f k 6) m + (f m 5 + f m 6) ≤ _
        have e : ((m + 1 : Nat) : Int) * (60 + B) = m * (60 + B) + (60 + B) := by
          rw [Int.natCast_add, Int.add_mul]
          simp
        omega
    have h2 := h1 n (Nat.le_refl _)
    have hB : 0 ≤ B := by
      have := h.2.2.2.1 0 (by have := h.1.1; omega)
      omega
    have h3 : (n : Int) * (60 + B) ≤ 24 * (60 + B) := Int.mul_le_mul_of_nonneg_right (by have := h.1.2; omega) (by omega)
    show zsum (fun k => f k 5 + f k 6) n ≤ _
    omega
theorem mrl_part {n : Nat} {f : zF} {dep : Nat → Nat} {B : Int} (h : WF n f dep B) {len : Int → Int} (hl : IsLen n f len) {p : Nat} (hp : p < n) (hg : f p 1 = 0) {r : Int} (hr : 0 ≤ r ∧ r ≤ 3) : mrl n f len (f p 0) r ≤ len p := by
  rw [hl p hp]
  unfold mln
  rw [if_neg (by omega)]
  unfold mlg
  have a1 := zmx_l 0 (mrl n f len (f p 0) 0)
  have b1 := zmx_r 0 (mrl n f len (f p 0) 0)
  have a2 := zmx_l (zmx 0 (mrl n f len (f p 0) 0)) (mrl n f len (f p 0) 1)
  have b2 := zmx_r (zmx 0 (mrl n f len (f p 0) 0)) (mrl n f len (f p 0) 1)
  have a3 := zmx_l (zmx (zmx 0 (mrl n f len (f p 0) 0)) (mrl n f len (f p 0) 1)) (mrl n f len (f p 0) 2)
  have b3 := zmx_r (zmx (zmx 0 (mrl n f len (f p 0) 0)) (mrl n f len (f p 0) 1)) (mrl n f len (f p 0) 2)
  have a4 := zmx_l (zmx (zmx (zmx 0 (mrl n f len (f p 0) 0)) (mrl n f len (f p 0) 1)) (mrl n f len (f p 0) 2)) (mrl n f len (f p 0) 3)
  have b4 := zmx_r (zmx (zmx (zmx 0 (mrl n f len (f p 0) 0)) (mrl n f len (f p 0) 1)) (mrl n f len (f p 0) 2)) (mrl n f len (f p 0) 3)
  rcases (show r = 0 ∨ r = 1 ∨ r = 2 ∨ r = 3 by omega) with e | e | e | e <;> subst e <;> omega
/-- any partial sum of lengths of a row, even of a row of no group -/
theorem mrl_bd {n : Nat} {f : zF} {dep : Nat → Nat} {B : Int} (h : WF n f dep B) {len : Int → Int} (hl : IsLen n f len) (g r : Int) : ∀ m : Nat, m ≤ n → 0 ≤ zsum (fun k => if f k 2 = g ∧ f k 3 = r then len k else 0) m ∧ zsum (fun k => if f k 2 = g ∧ f k 3 = r then len k else 0) m ≤ mtot n f := by
  have hnn : ∀ k : Nat, k < n → 0 ≤ (fun k => if f k 2 = g ∧ f k 3 = r then len k else 0) (k : Int) := fun k hk => by
    have := hl.bd h k hk
    show 0 ≤ (if f k 2 = g ∧ f k 3 = r then len k else 0)
    split <;> omega
  have htot : zsum (fun k => if f k 2 = g ∧ f k 3 = r then len k else 0) n ≤ mtot n f := by
    by_cases he : ∃ k : Nat, 1 ≤ k ∧ k < n ∧ f k 2 = g ∧ f k 3 = r
    · obtain ⟨k, hk1, hk, e1, e2⟩ := he
      obtain ⟨hr, -, p, hp, e3, hpg, -⟩ := h.2.2.2.2.1 k hk1 hk
      have h1 := mrl_part h hl hp hpg hr
      have h2 := (hl.bd h p hp).2
      rw [← e3, e1, e2] at h1
      exact Int.le_trans h1 h2
    · have hz : zsum (fun k => if f k 2 = g ∧ f k 3 = r then len k else 0) n ≤ len 0 := by
        have hn := h.1.1
        by_cases h0 : f 0 2 = g ∧ f 0 3 = r
        · rw [zsum_one (a := 0) (by omega) (fun k hk hne => if_neg (fun q => he ⟨k, by omega, hk, q⟩))]
          show (if f 0 2 = g ∧ f 0 3 = r then len 0 else 0) ≤ len 0
          rw [if_pos h0]
          exact Int.le_refl _
        · have hz0 : zsum (fun k => if f k 2 = g ∧ f k 3 = r then len k else 0) n = 0 := by
            refine zsum_none (fun k hk => if_neg (fun q => ?_))
            rcases Nat.eq_zero_or_pos k with e0 | e0
            · subst e0; exact h0 q
            · exact he ⟨k, e0, hk, q⟩
          rw [hz0]
          exact (hl.bd h 0 (by omega)).1
      have h2 := (hl.bd h 0 (by have := h.1.1; omega)).2
      exact Int.le_trans hz h2
  intro m hm
  have h1 := zsum_nn (g := fun k => if f k 2 = g ∧ f k 3 = r then len k else 0) (m := m) (fun k hk => hnn k (by omega))
  have h2 := zsum_up (g := fun k => if f k 2 = g ∧ f k 3 = r then len k else 0) hm hnn
  exact ⟨h1, by omega⟩
theorem mah_bd {n : Nat} {f : zF} {dep : Nat → Nat} {B : Int} (h : WF n f dep B) {len : Int → Int} (hl : IsLen n f len) {k : Nat} (hk : k < n) : ∀ m : Nat, m ≤ n → 0 ≤ zsum (fun o => if (f o 2 = f k 2 ∧ f o 3 = f k 3) ∧ f o 4 < f k 4 then len o else 0) m ∧ zsum (fun o => if (f o 2 = f k 2 ∧ f o 3 = f k 3) ∧ f o 4 < f k 4 then len o else 0) m ≤ mtot n f := by
  intro m hm
  have h1 := mrl_bd h hl (f k 2) (f k 3) m hm
  constructor
  · refine zsum_nn fun o ho => ?_
    have := hl.bd h o (by omega)
    split <;> omega
  · refine Int.le_trans (zsum_le (g' := fun o => if f o 2 = f k 2 ∧ f o 3 = f k 3 then len o else 0) fun o ho => ?_) h1.2
    have := hl.bd h o (by omega)
    by_cases g : f o 2 = f k 2 ∧ f o 3 = f k 3
    · rw [if_pos g]
      split <;> omega
    · rw [if_neg g, if_neg (fun q => g q.1)]
      exact Int.le_refl _
/-- what stands ahead, and the node itself, within its row -/
theorem mah_row {n : Nat} {f : zF} {dep : Nat → Nat} {B : Int} (h : WF n f dep B) {len : Int → Int} (hl : IsLen n f len) {k : Nat} (hk : k < n) : mah n f len k + len k ≤ mrl n f len (f k 2) (f k 3) := by
  have e1 : mah n f len k + len k = zsum (fun o => (if (f o 2 = f k 2 ∧ f o 3 = f k 3) ∧ f o 4 < f k 4 then len o else 0) + (if o = (k : Int) then len o else 0)) n := by
    rw [zsum_add, zsum_one (g := fun o => if o = (k : Int) then len o else 0) hk (fun j hj hne => if_neg (fun q => hne (by omega)))]
    simp [mah]
  rw [e1]
  refine zsum_le fun o ho => ?_
  have := hl.bd h o ho
  by_cases g0 : (o : Int) = k
  · have : o = k := by omega
    subst this
    rw [if_neg (by omega), if_pos rfl, if_pos ⟨rfl, rfl⟩]
    omega
  · rw [if_neg g0]
    by_cases g : f o 2 = f k 2 ∧ f o 3 = f k 3
    · rw [if_pos g]
      split <;> omega
    · rw [if_neg g, if_neg (fun q => g q.1)]
      omega
theorem IsTm.bd {n : Nat} {f : zF} {dep : Nat → Nat} {B : Int} (h : WF n f dep B) {len st sl dp : Int → Int} (hl : IsLen n f len) (ht : IsTm n f len st sl dp) : ∀ k : Nat, k < n → 0 ≤ st k ∧ 0 ≤ sl k ∧ 0 ≤ dp k ∧ st k + len k + sl k ≤ len 0 ∧ dp k = dep k := by
  have hn := h.1.1
  refine h.down ?_ fun k p hk1 hk hp e ih => ?_
  · have h1 := ht.1
    have h2 := ht.2.1
    have h3 := ht.2.2.1
    have h4 := h.2.2.2.2.2
    simp only [Int.natCast_zero] at *
    rw [h1, h2, h3, h4]
    simp
  · obtain ⟨a1, a2, a3⟩ := ht.2.2.2 k p hk1 hk hp e
    obtain ⟨hr, -, p', hp', e3, hpg, -⟩ := h.2.2.2.2.1 k hk1 hk
    have hpp := h.num_inj hp' hp (e3.symm.trans e)
    subst hpp
    have b1 := mrl_part h hl hp' hpg hr
    rw [← e3] at b1
    have b2 := mah_row h hl hk
    have b3 := (mah_bd h hl hk n (Nat.le_refl _)).1
    have b4 : mah n f len k = zsum (fun o => if (f o 2 = f k 2 ∧ f o 3 = f k 3) ∧ f o 4 < f k 4 then len o else 0) n := rfl
    have b5 := h.dep_c hp' hk1 hk e
    have b6 := hl.bd h k hk
    omega
theorem plan_ex {n : Nat} {f : zF} {dep : Nat → Nat} {B : Int} (h : WF n f dep B) : ∃ len st sl dp : Int → Int, IsLen n f len ∧ IsTm n f len st sl dp := by
  obtain ⟨st, s0, s1⟩ := acc_ok h (mah n f (lenF n f (depMax dep n + 1)))
  obtain ⟨sl, l0, l1⟩ := acc_ok h (fun k => lenF n f (depMax dep n + 1) (zfnd (fun j => f j 0) (f k 2) n) - mrl n f (lenF n f (depMax dep n + 1)) (f k 2) (f k 3))
  obtain ⟨dp, d0, d1⟩ := acc_ok h (fun _ => 1)
  refine ⟨_, st, sl, dp, lenF_ok h, s0, l0, d0, fun k p hk1 hk hp e => ⟨s1 k p hk1 hk hp e, ?_, d1 k p hk1 hk hp e⟩⟩
  rw [l1 k p hk1 hk hp e, h.par hp e.symm]
/-! ===== an order, groups ahead of their children: 'ord' lists 'many' places; those of the first i have all their children in it, place ord i those ahead of c ===== -/
def BInv (n : Nat) (ch : Nat → Nat → Prop) (ord : Nat → Nat) (i c many : Nat) : Prop :=
  (∀ j, j < many → ord j < n) ∧ (∀ a b, a < many → b < many → ord a = ord b → a = b) ∧ ord 0 = 0 ∧ 1 ≤ many ∧ (∀ j, 0 < j → j < many → 1 ≤ ord j) ∧
  (∀ x, 1 ≤ x → x < n → ((∃ j, j < many ∧ ord j = x) ↔ ((∃ a, a < i ∧ ch (ord a) x) ∨ (ch (ord i) x ∧ x < c)))) ∧ (∀ j, 0 < j → j < many → ∃ a, a < j ∧ a ≤ i ∧ ch (ord a) (ord j))
theorem BInv.le {n : Nat} {ch : Nat → Nat → Prop} {ord : Nat → Nat} {i c many : Nat} (h : BInv n ch ord i c many) : many ≤ n := zpig n many ord h.1 (fun a b ha hb e => h.2.1 a b ha hb e)
theorem BInv.start {n : Nat} {ch : Nat → Nat → Prop} (hn : 1 ≤ n) {ord : Nat → Nat} (h0 : ord 0 = 0) {c : Nat} (hc : c ≤ 1) : BInv n ch ord 0 c 1 := by
  refine ⟨fun j hj => ?_, fun a b ha hb _ => by omega, h0, Nat.le_refl _, fun j h1 h2 => by omega, fun x hx1 hx => ?_, fun j h1 h2 => by omega⟩
  · have : j = 0 := by omega
    subst this; omega
  · constructor
    · rintro ⟨j, hj, e⟩
      have : j = 0 := by omega
      subst this; omega
    · rintro (⟨a, ha, -⟩ | ⟨-, hx2⟩) <;> omega
theorem BInv.skip {n : Nat} {ch : Nat → Nat → Prop} {ord : Nat → Nat} {i c many : Nat} (h : BInv n ch ord i c many) (hc : ¬ ch (ord i) c) : BInv n ch ord i (c + 1) many := by
  obtain ⟨a1, a2, a3, a4, a5, a6, a7⟩ := h
  refine ⟨a1, a2, a3, a4, a5, fun x hx1 hx => (a6 x hx1 hx).trans ?_, a7⟩
  constructor
  · rintro (g | ⟨g1, g2⟩)
    · exact Or.inl g
    · exact Or.inr ⟨g1, by omega⟩
  · rintro (g | ⟨g1, g2⟩)
    · exact Or.inl g
    · refine Or.inr ⟨g1, ?_⟩
      by_cases e : x = c
      · subst e; exact absurd g1 hc
      · omega
/-- a child comes in at the end; the order is given by another function that agrees so far -/
theorem BInv.add {n : Nat} {ch : Nat → Nat → Prop} (hu : ∀ p q x, p < n → q < n → ch p x → ch q x → p = q) {ord ord' : Nat → Nat} {i c many : Nat} (h : BInv n ch ord i c many) (him : i < many) (hc1 : 1 ≤ c) (hc : c < n) (hch : ch (ord i) c) (hag : ∀ j, j < many → ord' j = ord j) (hnew : ord' many = c) : BInv n ch ord' i (c + 1) (many + 1) ∧ many < n := by
  obtain ⟨a1, a2, a3, a4, a5, a6, a7⟩ := h
  have hno : ∀ j, j < many → ord j ≠ c := by
    intro j hj e
    rcases (a6 c hc1 hc).mp ⟨j, hj, e⟩ with ⟨a, ha, hca⟩ | ⟨-, g⟩
    · have := a2 a i (by omega) him (hu _ _ c (a1 a (by omega)) (a1 i him) hca hch)
      omega
    · omega
  have hB : BInv n ch ord' i (c + 1) (many + 1) := by
    refine ⟨fun j hj => ?_, fun a b ha hb e => ?_, by rw [hag 0 (by omega)]; exact a3, by omega, fun j h1 h2 => ?_, fun x hx1 hx => ?_, fun j h1 h2 => ?_⟩
    · by_cases g : j = many
      · subst g; omega
      · rw [hag j (by omega)]; exact a1 j (by omega)
    · by_cases g1 : a = many <;> by_cases g2 : b = many
      · omega
      · rw [g1, hnew, hag b (by omega)] at e
        exact absurd e.symm (hno b (by omega))
      · rw [g2, hnew, hag a (by omega)] at e
        exact absurd e (hno a (by omega))
      · rw [hag a (by omega), hag b (by omega)] at e
        exact a2 a b (by omega) (by omega) e
    · by_cases g : j = many
      · subst g; omega
      · rw [hag j (by omega)]; exact a5 j h1 (by omega)
    · rw [hag i him]
      constructor
      · rintro ⟨j, hj, e⟩
        by_cases g : j = many
        · subst g
          rw [hnew] at e
          subst e
          exact Or.inr ⟨hch, by omega⟩
        · rw [hag j (by omega)] at e
          rcases (a6 x hx1 hx).mp ⟨j, by omega, e⟩ with ⟨a, ha, hca⟩ | ⟨g1, g2⟩
          · exact Or.inl ⟨a, ha, by rw [hag a (by omega)]; exact hca⟩
          · exact Or.inr ⟨g1, by omega⟩
      · rintro (⟨a, ha, hca⟩ | ⟨g1, g2⟩)
        · rw [hag a (by omega)] at hca
          obtain ⟨j, hj, e⟩ := (a6 x hx1 hx).mpr (Or.inl ⟨a, ha, hca⟩)
          exact ⟨j, by omega, by rw [hag j hj]; exact e⟩
        · by_cases e : x = c
          · subst e; exact ⟨many, by omega, hnew⟩
          · obtain ⟨j, hj, e⟩ := (a6 x hx1 hx).mpr (Or.inr ⟨g1, by omega⟩)
            exact ⟨j, by omega, by rw [hag j hj]; exact e⟩
    · by_cases g : j = many
      · subst g
        exact ⟨i, him, Nat.le_refl _, by rw [hag i him, hnew]; exact hch⟩
      · obtain ⟨a, ha, hai, hca⟩ := a7 j h1 (by omega)
        exact ⟨a, ha, hai, by rw [hag a (by omega), hag j (by omega)]; exact hca⟩
  have := hB.le
  exact ⟨hB, by omega⟩
theorem BInv.next {n : Nat} {ch : Nat → Nat → Prop} {ord : Nat → Nat} {i c many : Nat} (h : BInv n ch ord i c many) (hc : n ≤ c) {c0 : Nat} (hc0 : c0 ≤ 1) : BInv n ch ord (i + 1) c0 many := by
  obtain ⟨a1, a2, a3, a4, a5, a6, a7⟩ := h
  refine ⟨a1, a2, a3, a4, a5, fun x hx1 hx => (a6 x hx1 hx).trans ?_, fun j h1 h2 => ?_⟩
  · constructor
    · rintro (⟨a, ha, g⟩ | ⟨g1, g2⟩)
      · exact Or.inl ⟨a, by omega, g⟩
      · exact Or.inl ⟨i, by omega, g1⟩
    · rintro (⟨a, ha, g⟩ | ⟨g1, g2⟩)
      · by_cases e : a = i
        · subst e; exact Or.inr ⟨g, by omega⟩
        · exact Or.inl ⟨a, by omega, g⟩
      · omega
  · obtain ⟨a, g1, g2, g3⟩ := a7 j h1 h2
    exact ⟨a, g1, by omega, g3⟩
/-- at the end every place is there -/
theorem BInv.done {n : Nat} {ch : Nat → Nat → Prop} {ord : Nat → Nat} {many : Nat} {dep : Nat → Nat} (h : BInv n ch ord many 0 many) (hd : ∀ x, 1 ≤ x → x < n → ∃ p, p < n ∧ ch p x ∧ dep x = dep p + 1) : many = n ∧ ∀ x, x < n → ∃ j, j < many ∧ ord j = x := by
  have hall : ∀ (F x : Nat), x < n → dep x < F → ∃ j, j < many ∧ ord j = x := by
    intro F
    induction F with
    | zero => intro x _ hF; omega
    | succ F ih =>
      intro x hx hF
      rcases Nat.eq_zero_or_pos x with e0 | e0
      · subst e0; exact ⟨0, h.2.2.2.1, h.2.2.1⟩
      · obtain ⟨p, hp, hc, e⟩ := hd x e0 hx
        obtain ⟨j, hj, ej⟩ := ih p hp (by omega)
        exact (h.2.2.2.2.2.1 x e0 hx).mpr (Or.inl ⟨j, hj, by rw [ej]; exact hc⟩)
  have hall2 : ∀ x, x < n → ∃ j, j < many ∧ ord j = x := fun x hx => hall (dep x + 1) x hx (by omega)
  refine ⟨?_, hall2⟩
  have h1 := h.le
  have h2 : n ≤ many := by
    refine zpig many n (fun x => if hx : x < n then (hall2 x hx).choose else 0) (fun x hx => ?_) (fun a b ha hb e => ?_)
    · simp only [hx, dif_pos]
      exact (hall2 x hx).choose_spec.1
    · simp only [ha, hb, dif_pos] at e
      have e1 := (hall2 a ha).choose_spec.2
      have e2 := (hall2 b hb).choose_spec.2
      rw [e] at e1
      omega
  omega
