/-! ===== the objects of a run: 0 the class, 1 its text, 2 3 its bytes and numbers, 4 the saved trees, 5 + 51 t the trees (t = 0 .. 4), 260 the reference, 261 .. 270 its rows, 271 the answers ===== -/
def KK : List (Nat × Nat) := [(3, 0), (0, 0), (5, 150), (5, 3), (8, 4), (2, 0), (7, 24), (7, 24), (1, 0), (5, 4), (1, 0), (5, 4), (1, 0), (5, 4), (1, 0), (5, 4), (1, 0), (5, 4), (1, 0), (5, 4), (1, 0), (5, 4), (1, 0), (5, 4), (1, 0), (5, 4), (1, 0), (5, 4), (1, 0), (5, 4), (1, 0), (5, 4), (1, 0), (5, 4), (1, 0), (5, 4), (1, 0), (5, 4), (1, 0), (5, 4), (1, 0), (5, 4), (1, 0), (5, 4), (1, 0), (5, 4), (1, 0), (5, 4), (1, 0), (5, 4), (1, 0), (5, 4), (1, 0), (5, 4), (1, 0), (5, 4), (2, 0), (7, 24), (7, 24), (1, 0), (5, 4), (1, 0), (5, 4), (1, 0), (5, 4), (1, 0), (5, 4), (1, 0), (5, 4), (1, 0), (5, 4), (1, 0), (5, 4), (1, 0), (5, 4), (1, 0), (5, 4), (1, 0), (5, 4), (1, 0), (5, 4), (1, 0), (5, 4), (1, 0), (5, 4), (1, 0), (5, 4), (1, 0), (5, 4), (1, 0), (5, 4), (1, 0), (5, 4), (1, 0), (5, 4), (1, 0), (5, 4), (1, 0), (5, 4), (1, 0), (5, 4), (1, 0), (5, 4), (1, 0), (5, 4), (1, 0), (5, 4), (2, 0), (7, 24), (7, 24), (1, 0), (5, 4), (1, 0), (5, 4), (1, 0), (5, 4), (1, 0), (5, 4), (1, 0), (5, 4), (1, 0), (5, 4), (1, 0), (5, 4), (1, 0), (5, 4), (1, 0), (5, 4), (1, 0), (5, 4), (1, 0), (5, 4), (1, 0), (5, 4), (1, 0), (5, 4), (1, 0), (5, 4), (1, 0), (5, 4), (1, 0), (5, 4), (1, 0), (5, 4), (1, 0), (5, 4), (1, 0), (5, 4), (1, 0), (5, 4), (1, 0), (5, 4), (1, 0), (5, 4), (1, 0), (5, 4), (1, 0), (5, 4), (2, 0), (7, 24), (7, 24), (1, 0), (5, 4), (1, 0), (5, 4), (1, 0), (5, 4), (1, 0), (5, 4), (1, 0), (5, 4), (1, 0), (5, 4), (1, 0), (5, 4), (1, 0), (5, 4), (1, 0), (5, 4), (1, 0), (5, 4), (1, 0), (5, 4), (1, 0), (5, 4), (1, 0), (5, 4), (1, 0), (5, 4), (1, 0), (5, 4), (1, 0), (5, 4), (1, 0), (5, 4), (1, 0), (5, 4), (1, 0), (5, 4), (1, 0), (5, 4), (1, 0), (5, 4), (1, 0), (5, 4), (1, 0), (5, 4), (1, 0), (5, 4), (2, 0), (7, 24), (7, 24), (1, 0), (5, 4), (1, 0), (5, 4), (1, 0), (5, 4), (1, 0), (5, 4), (1, 0), (5, 4), (1, 0), (5, 4), (1, 0), (5, 4), (1, 0), (5, 4), (1, 0), (5, 4), (1, 0), (5, 4), (1, 0), (5, 4), (1, 0), (5, 4), (1, 0), (5, 4), (1, 0), (5, 4), (1, 0), (5, 4), (1, 0), (5, 4), (1, 0), (5, 4), (1, 0), (5, 4), (1, 0), (5, 4), (1, 0), (5, 4), (1, 0), (5, 4), (1, 0), (5, 4), (1, 0), (5, 4), (1, 0), (5, 4), (4, 0), (5, 1026), (5, 150), (5, 24), (5, 24), (5, 24), (5, 24), (5, 24), (6, 24), (5, 3), (5, 24), (9, 1)]
theorem KK_len : KK.length = 272 := by decide +kernel
abbrev oT (t : Nat) : Nat := 5 + 51 * t
abbrev oN (t i : Nat) : Nat := 5 + 51 * t + 3 + 2 * i
abbrev oL (t i : Nat) : Nat := 5 + 51 * t + 4 + 2 * i
theorem KK_T : ∀ t, t < 5 → KK[5 + 51 * t]? = some (2, 0) := by decide +kernel
theorem KK_T1 : ∀ t, t < 5 → KK[5 + 51 * t + 1]? = some (7, 24) := by decide +kernel
theorem KK_T2 : ∀ t, t < 5 → KK[5 + 51 * t + 2]? = some (7, 24) := by decide +kernel
theorem KK_N : ∀ t, t < 5 → ∀ i, i < 24 → KK[5 + 51 * t + 3 + 2 * i]? = some (1, 0) := by decide +kernel
theorem KK_L : ∀ t, t < 5 → ∀ i, i < 24 → KK[5 + 51 * t + 4 + 2 * i]? = some (5, 4) := by decide +kernel
theorem zk_at {h : zH} {ob : Nat} {kd : Nat × Nat} (hK : h.1 = KK) (e : KK[ob]? = some kd) : h.1[ob]? = some kd := by rw [hK]; exact e
section ZR4
variable {y : zM} {pc : Nat} {L : List (Nat × zV)} {st : List zV} {h : zH} {n : Nat × Nat} {q : zO}
theorem Ev.gI {idx ob c z k : Nat} {x : Int} (d : decode (zcode y) pc = .ok (.getfield idx, 3)) (lk : zFl (zname y).cls idx c k) (ho : h.1[ob]? = some (c, z)) (hr : zRf c k = false) (hv : h.2.1 ob (k : Nat) = x) (kk : Ev y (pc + 3) L (zi x :: st) h n q) : Ev y pc L (zr (some ob) :: st) h n q := Ev.getI d lk ho hr (by rw [hv]; exact kk)
theorem Ev.gR {idx ob c z k : Nat} {r : Option Nat} (d : decode (zcode y) pc = .ok (.getfield idx, 3)) (lk : zFl (zname y).cls idx c k) (ho : h.1[ob]? = some (c, z)) (hr : zRf c k = true) (hv : h.2.2 ob (k : Nat) = r) (kk : Ev y (pc + 3) L (zr r :: st) h n q) : Ev y pc L (zr (some ob) :: st) h n q := Ev.getR d lk ho hr (by rw [hv]; exact kk)
theorem Ev.ia {ob N : Nat} {i x : Int} (d : decode (zcode y) pc = .ok (.iaload, 1)) (ho : h.1[ob]? = some (5, N)) (h0 : 0 ≤ i) (h1 : i < N) (hv : h.2.1 ob i = x) (kk : Ev y (pc + 1) L (zi x :: st) h n q) : Ev y pc L (zi i :: zr (some ob) :: st) h n q := Ev.iald d ho h0 h1 (by rw [hv]; exact kk)
theorem Ev.za {ob N : Nat} {i x : Int} (d : decode (zcode y) pc = .ok (.baload, 1)) (ho : h.1[ob]? = some (6, N)) (h0 : 0 ≤ i) (h1 : i < N) (hv : h.2.1 ob i = x) (kk : Ev y (pc + 1) L (zi x :: st) h n q) : Ev y pc L (zi i :: zr (some ob) :: st) h n q := Ev.zald d ho h0 h1 (by rw [hv]; exact kk)
theorem Ev.la {ob N : Nat} {i x : Int} (d : decode (zcode y) pc = .ok (.laload, 1)) (ho : h.1[ob]? = some (9, N)) (h0 : 0 ≤ i) (h1 : i < N) (hv : h.2.1 ob i = x) (kk : Ev y (pc + 1) L (zl x :: st) h n q) : Ev y pc L (zi i :: zr (some ob) :: st) h n q := Ev.lald d ho h0 h1 (by rw [hv]; exact kk)
theorem Ev.aa {ob N kd : Nat} {i : Int} {r : Option Nat} (d : decode (zcode y) pc = .ok (.aaload, 1)) (ho : h.1[ob]? = some (kd, N)) (hkd : kd = 7 ∨ kd = 8) (h0 : 0 ≤ i) (h1 : i < N) (hv : h.2.2 ob i = r) (kk : Ev y (pc + 1) L (zr r :: st) h n q) : Ev y pc L (zi i :: zr (some ob) :: st) h n q := Ev.aald d ho hkd h0 h1 (by rw [hv]; exact kk)
/-- the outcome in other words -/
theorem Ev.as {o o' : zO} (k : Ev y pc L st h n o) (e : o = o') : Ev y pc L st h n o' := e ▸ k
theorem Ev.at {pc' : Nat} {L' : List (Nat × zV)} {st' : List zV} {h' : zH} {o : zO} (k : Ev y pc' L' st' h' n o) (e : pc' = pc ∧ L' = L ∧ st' = st ∧ h' = h) : Ev y pc L st h n o := by
  obtain ⟨rfl, rfl, rfl, rfl⟩ := e
  exact k
end ZR4
theorem Ev.perm {y : zM} {pc : Nat} {L L' : List (Nat × zV)} {st : List zV} {h : zH} {n : Nat × Nat} {o : zO} (ks : List Nat) (e : ks.filterMap (fun k => L[k]?) = L') (k : Ev y pc L' st h n o) : Ev y pc L st h n o := by
  refine Ev.loc (fun q hq => ?_) k
  rw [← e] at hq
  obtain ⟨j, -, hj⟩ := List.mem_filterMap.mp hq
  exact List.mem_of_getElem? hj
/-! sums and searches over the places 0 .. m - 1 -/
def zsum (g : Int → Int) : Nat → Int
  | 0 => 0
  | m + 1 => zsum g m + g m
def zfnd (g : Int → Int) (x : Int) : Nat → Int
  | 0 => -1
  | m + 1 => if 0 ≤ zfnd g x m then zfnd g x m else if g m = x then m else -1
theorem zfnd_cases (g : Int → Int) (x : Int) (m : Nat) : (zfnd g x m = -1 ∧ ∀ k : Nat, k < m → g k ≠ x) ∨ (∃ k : Nat, k < m ∧ zfnd g x m = k ∧ g k = x ∧ ∀ j : Nat, j < k → g j ≠ x) := by
  induction m with
  | zero => exact Or.inl ⟨rfl, fun k hk => absurd hk (Nat.not_lt_zero _)⟩
  | succ m ih =>
    rcases ih with ⟨e, ha⟩ | ⟨k, hk, e, hg, hf⟩
    · by_cases hx : g m = x
      · refine Or.inr ⟨m, Nat.lt_succ_self _, ?_, hx, ha⟩
        unfold zfnd
        rw [e, if_neg (by omega), if_pos hx]
      · refine Or.inl ⟨?_, fun k hk => ?_⟩
        · unfold zfnd
          rw [e, if_neg (by omega), if_neg hx]
        · by_cases hkm : k = m
          · subst hkm; exact hx
          · exact ha k (by omega)
    · refine Or.inr ⟨k, by omega, ?_, hg, hf⟩
      unfold zfnd
      rw [e, if_pos (by omega)]
theorem zfnd_at {g : Int → Int} {x : Int} {m k : Nat} (hk : k < m) (hg : g k = x) (hf : ∀ j : Nat, j < k → g j ≠ x) : zfnd g x m = k := by
  rcases zfnd_cases g x m with ⟨e, ha⟩ | ⟨j, hj, e, hg2, hf2⟩
  · exact absurd hg (ha k hk)
  · rw [e]
    by_cases h1 : j < k
    · exact absurd hg2 (hf j h1)
    · by_cases h2 : k < j
      · exact absurd hg (hf2 k h2)
      · have : j = k := by omega
        rw [this]
theorem zfnd_no {g : Int → Int} {x : Int} {m : Nat} (h : ∀ k : Nat, k < m → g k ≠ x) : zfnd g x m = -1 := by
  rcases zfnd_cases g x m with ⟨e, -⟩ | ⟨j, hj, -, hg2, -⟩
  · exact e
  · exact absurd hg2 (h j hj)
theorem zfnd_rng (g : Int → Int) (x : Int) (m : Nat) : -1 ≤ zfnd g x m ∧ zfnd g x m < m := by
  rcases zfnd_cases g x m with ⟨e, -⟩ | ⟨j, hj, e, -⟩ <;> omega
/-- the reference's references -/
def zRM (h : zH) : Prop := h.1 = KK ∧ h.2.2 260 0 = some 261 ∧ h.2.2 260 3 = some 262 ∧ h.2.2 260 5 = some 263 ∧ h.2.2 260 6 = some 264 ∧ h.2.2 260 7 = some 265 ∧ h.2.2 260 8 = some 266 ∧ h.2.2 260 9 = some 267 ∧ h.2.2 260 10 = some 268 ∧ h.2.2 260 13 = some 269 ∧ h.2.2 260 14 = some 270
theorem zRM.up {h : zH} (hR : zRM h) (I : Nat → Int → Int) : zRM (h.1, I, h.2.2) := hR
