/-! texts: the bytes t at the places 0 .. L - 1 -/
theorem zup_zup {α : Type} (f : Nat → Int → α) (o : Nat) (k : Int) (v v' : α) : zup (zup f o k v) o k v' = zup f o k v' := by
  funext a b
  unfold zup
  split <;> rfl
theorem zup_cm {α : Type} (f : Nat → Int → α) {o o' : Nat} {k k' : Int} (v v' : α) (h : o ≠ o' ∨ k ≠ k') : zup (zup f o k v) o' k' v' = zup (zup f o' k' v') o k v := by
  funext a b
  unfold zup
  by_cases h1 : a = o' ∧ b = k'
  · rw [if_pos h1, if_neg (by rintro ⟨q1, q2⟩; rcases h with h | h; exact h (q1.symm.trans h1.1); exact h (q2.symm.trans h1.2)), if_pos h1]
  · rw [if_neg h1, if_neg h1]
def hr (t : Int → Int) (L p : Nat) : Int := if p < L then t p else -1
def BY (t : Int → Int) (L : Nat) : Prop := L ≤ 150 ∧ ∀ p : Nat, p < L → 0 ≤ t p ∧ t p ≤ 127
def TX (I : Nat → Int → Int) (t : Int → Int) (L : Nat) : Prop := I 260 4 = L ∧ L ≤ 150 ∧ ∀ p : Nat, p < L → I 262 p = t p
theorem TX.up {I : Nat → Int → Int} {t : Int → Int} {L : Nat} (h : TX I t L) {k : Int} (hk : k ≠ 4) (v : Int) : TX (zup I 260 k v) t L := ⟨(zup_k _ _ _ _ (fun e => hk e.symm)).trans h.1, h.2.1, fun p hp => (zup_o _ _ _ _ (by decide)).trans (h.2.2 p hp)⟩
theorem TX.up9 {I : Nat → Int → Int} {t : Int → Int} {L : Nat} (h : TX I t L) (k v : Int) : TX (zup I 269 k v) t L := ⟨(zup_o _ _ _ _ (by decide)).trans h.1, h.2.1, fun p hp => (zup_o _ _ _ _ (by decide)).trans (h.2.2 p hp)⟩
theorem hr_rng {t : Int → Int} {L : Nat} (hb : BY t L) (p : Nat) : -1 ≤ hr t L p ∧ hr t L p ≤ 127 := by
  unfold hr
  split
  · rename_i g; have := hb.2 p g; omega
  · omega
theorem hr_lt {t : Int → Int} {L p : Nat} (h : hr t L p ≠ -1) : p < L := by
  unfold hr at h
  split at h
  · assumption
  · exact absurd rfl h
/-- where a stretch of bytes between two ends -/
def rnF (lo hi : Int) (t : Int → Int) (L : Nat) : Nat → Nat → Nat
  | 0, p => p
  | f + 1, p => if lo ≤ hr t L p ∧ hr t L p ≤ hi then rnF lo hi t L f (p + 1) else p
def rn (lo hi : Int) (t : Int → Int) (L p : Nat) : Nat := rnF lo hi t L (L - p) p
theorem rn_in {lo hi : Int} {t : Int → Int} {L p : Nat} (hlo : 0 ≤ lo) (h : lo ≤ hr t L p ∧ hr t L p ≤ hi) : rn lo hi t L p = rn lo hi t L (p + 1) := by
  have hp : p < L := hr_lt (t := t) (by omega)
  unfold rn
  rw [show L - p = (L - (p + 1)) + 1 by omega]
  show (if lo ≤ hr t L p ∧ hr t L p ≤ hi then rnF lo hi t L (L - (p + 1)) (p + 1) else p) = _
  rw [if_pos h]
theorem rn_out {lo hi : Int} {t : Int → Int} {L p : Nat} (h : ¬ (lo ≤ hr t L p ∧ hr t L p ≤ hi)) : rn lo hi t L p = p := by
  unfold rn
  cases hf : L - p with
  | zero => rfl
  | succ f =>
    show (if lo ≤ hr t L p ∧ hr t L p ≤ hi then rnF lo hi t L f (p + 1) else p) = _
    rw [if_neg h]
theorem rn_all {lo hi : Int} {t : Int → Int} {L : Nat} (hlo : 0 ≤ lo) : ∀ (f p : Nat), L - p ≤ f → p ≤ rn lo hi t L p ∧ (p ≤ L → rn lo hi t L p ≤ L) ∧ ¬ (lo ≤ hr t L (rn lo hi t L p) ∧ hr t L (rn lo hi t L p) ≤ hi) ∧ ∀ j, p ≤ j → j < rn lo hi t L p → lo ≤ hr t L j ∧ hr t L j ≤ hi := by
  intro f
  induction f with
  | zero =>
    intro p hf
    have e : ¬ (lo ≤ hr t L p ∧ hr t L p ≤ hi) := by
      unfold hr
      rw [if_neg (by omega)]
      omega
    rw [rn_out e]
    exact ⟨Nat.le_refl _, fun h => h, e, fun j h1 h2 => by omega⟩
  | succ f ih =>
    intro p hf
    by_cases e : lo ≤ hr t L p ∧ hr t L p ≤ hi
    · have hp : p < L := hr_lt (t := t) (by omega)
      obtain ⟨a1, a2, a3, a4⟩ := ih (p + 1) (by omega)
      rw [rn_in hlo e]
      refine ⟨by omega, fun _ => a2 (by omega), a3, fun j h1 h2 => ?_⟩
      by_cases ej : j = p
      · subst ej; exact e
      · exact a4 j (by omega) h2
    · rw [rn_out e]
      exact ⟨Nat.le_refl _, fun h => h, e, fun j h1 h2 => by omega⟩
abbrev sk (t : Int → Int) (L p : Nat) : Nat := rn 32 32 t L p
abbrev lt (t : Int → Int) (L p : Nat) : Nat := rn 97 122 t L p
/-- the word's number after j letters -/
def wvF (t : Int → Int) (L p : Nat) : Nat → Int
  | 0 => 0
  | j + 1 => if j < 7 then 27 * wvF t L p j + hr t L (p + j) - 96 else -1
def kindW (w : Int) : Int := if w = 4085899 then 1 else if w = 394913 then 2 else if w = 237458 then 3 else if w = 37037273 then 4 else if w = 40187 then 5 else if w = 267413 then 6 else if w = 92275 then 7 else if w = 11450658 then 8 else 0
def kd (t : Int → Int) (L p : Nat) : Int := kindW (wvF t L p (lt t L p - p))
theorem kindW_rng (w : Int) : 0 ≤ kindW w ∧ kindW w ≤ 8 := by
  unfold kindW
  repeat' split
  all_goals omega
theorem wvF_rng {t : Int → Int} {L p : Nat} : ∀ j : Nat, (∀ i, i < j → 97 ≤ hr t L (p + i) ∧ hr t L (p + i) ≤ 122) → (j ≤ 7 → 0 ≤ wvF t L p j ∧ wvF t L p j + 1 ≤ (27 : Int) ^ j) ∧ (7 < j → wvF t L p j = -1) := by
  intro j
  induction j with
  | zero => intro _; exact ⟨fun _ => ⟨Int.le_refl _, by show (0 : Int) + 1 ≤ 27 ^ 0; decide⟩, fun h => by omega⟩
  | succ j ih =>
    intro h
    have h1 := ih (fun i hi => h i (by omega))
    have h2 := h j (by omega)
    have e : wvF t L p (j + 1) = if j < 7 then 27 * wvF t L p j + hr t L (p + j) - 96 else -1 := rfl
    by_cases c : j < 7
    · rw [e, if_pos c]
      have h3 := h1.1 (by omega)
      have e2 : (27 : Int) ^ (j + 1) = 27 ^ j * 27 := Int.pow_succ 27 j
      refine ⟨fun _ => ⟨by omega, ?_⟩, fun g => by omega⟩
      rw [e2]
      omega
    · rw [e, if_neg c]
      exact ⟨fun g => by omega, fun _ => rfl⟩
theorem wvF_bd {t : Int → Int} {L p j : Nat} (h : ∀ i, i < j → 97 ≤ hr t L (p + i) ∧ hr t L (p + i) ≤ 122) : -1 ≤ wvF t L p j ∧ wvF t L p j ≤ 10460353203 := by
  have h1 := wvF_rng j h
  by_cases c : j ≤ 7
  · have h2 := h1.1 c
    have h3 : (27 : Int) ^ j ≤ 27 ^ 7 := by
      have : (27 : Nat) ^ j ≤ 27 ^ 7 := Nat.pow_le_pow_right (by decide) c
      exact_mod_cast this
    have h4 : (27 : Int) ^ 7 = 10460353203 := by decide
    omega
  · have h2 := h1.2 (by omega)
    omega
theorem lcm_ne {c w : Int} (h : ¬ w = c) : ¬ (if c < w then (1 : Int) else if w = c then 0 else -1) = 0 := by
  split
  · decide
  · first
    | decide
    | (rw [if_neg h]; decide)
theorem lcm_eq {c w : Int} (h : w = c) : (if c < w then (1 : Int) else if w = c then 0 else -1) = 0 := by
  rw [if_neg (by omega), if_pos h]
/-- up to three digits: how many, and the number -/
def ndF (t : Int → Int) (L : Nat) : Nat → Nat → Nat
  | 0, _ => 0
  | f + 1, p => if 48 ≤ hr t L p ∧ hr t L p ≤ 57 then ndF t L f (p + 1) + 1 else 0
def dvF (t : Int → Int) (L : Nat) : Nat → Int → Nat → Int
  | 0, v, _ => v
  | f + 1, v, p => if 48 ≤ hr t L p ∧ hr t L p ≤ 57 then dvF t L f (10 * v + hr t L p - 48) (p + 1) else v
theorem ndF_le (t : Int → Int) (L : Nat) : ∀ f p, ndF t L f p ≤ f ∧ (p ≤ L → p + ndF t L f p ≤ L) := by
  intro f
  induction f with
  | zero => intro p; exact ⟨Nat.le_refl _, fun h => h⟩
  | succ f ih =>
    intro p
    have h1 := ih (p + 1)
    have e : ndF t L (f + 1) p = if 48 ≤ hr t L p ∧ hr t L p ≤ 57 then ndF t L f (p + 1) + 1 else 0 := rfl
    rw [e]
    split
    · rename_i g; have hp : p < L := hr_lt (t := t) (by omega); have := h1.2 (by omega); omega
    · omega
/-- a number: its first digit's place, its end, its value, whether it is one -/
def nmAt (t : Int → Int) (L p : Nat) : Nat := if hr t L p = 32 then sk t L p + ndF t L 3 (sk t L p) else p
def nmV (t : Int → Int) (L p : Nat) : Int := dvF t L 3 0 (sk t L p)
abbrev nmOk (t : Int → Int) (L p : Nat) : Prop := hr t L p = 32 ∧ 0 < ndF t L 3 (sk t L p) ∧ ¬ (48 ≤ hr t L (sk t L p + ndF t L 3 (sk t L p)) ∧ hr t L (sk t L p + ndF t L 3 (sk t L p)) ≤ 57)
theorem s_here {h : zH} {I : Nat → Int → Int} (hR : zRM h) {t : Int → Int} {L : Nat} (hT : TX I t L) {p : Nat} (hp : I 260 11 = p) : Ev M_X7_here 0 [(0, zr (some 260))] [] (h.1, I, h.2.2) (0, 0) (.inl (some (zi (hr t L p))), (h.1, I, h.2.2)) := by
  have hL := hT.2.1
  unfold hr
  by_cases h1 : p < L
  · skip
    rw [if_pos h1]
    refine Ev.aload_n (pc := 0) (n := (0, 0)) (i := 0) dX7_here_0 rfl rfl ?_
    refine Ev.gI (pc := 1) (n := (0, 0)) (x := (p : Int)) dX7_here_1 fl_X7_201 (zk_at hR.1 rfl) rfl hp ?_
    refine Ev.aload_n (pc := 4) (n := (0, 0)) (i := 0) dX7_here_4 rfl rfl ?_
    refine Ev.gI (pc := 5) (n := (0, 0)) (x := (L : Int)) dX7_here_5 fl_X7_183 (zk_at hR.1 rfl) rfl hT.1 ?_
    refine Ev.icmp_ge (pc := 8) (n := (0, 0)) (tgt := 23) dX7_here_8 rfl (fun hc => absurd hc (by omega)) (fun hc => ?_)
    refine Ev.aload_n (pc := 11) (n := (0, 0)) (i := 0) dX7_here_11 rfl rfl ?_
    refine Ev.gR (pc := 12) (n := (0, 0)) (r := (some 262)) dX7_here_12 fl_X7_13 (zk_at hR.1 rfl) rfl hR.2.2.1 ?_
    refine Ev.aload_n (pc := 15) (n := (0, 0)) (i := 0) dX7_here_15 rfl rfl ?_
    refine Ev.gI (pc := 16) (n := (0, 0)) (x := (p : Int)) dX7_here_16 fl_X7_201 (zk_at hR.1 rfl) rfl hp ?_
    refine Ev.ia (pc := 19) (n := (0, 0)) (x := (t p)) dX7_here_19 (zk_at hR.1 rfl) (by omega) (by omega) (hT.2.2 p h1) ?_
    refine Ev.goto (pc := 20) (n := (0, 0)) (tgt := 24) dX7_here_20 rfl ?_
    exact Ev.iret dX7_here_24 rfl ⟨(Nat.le_of_ble_eq_true rfl), (Nat.le_of_ble_eq_true rfl)⟩
  · skip
    rw [if_neg h1]
    refine Ev.aload_n (pc := 0) (n := (0, 0)) (i := 0) dX7_here_0 rfl rfl ?_
    refine Ev.gI (pc := 1) (n := (0, 0)) (x := (p : Int)) dX7_here_1 fl_X7_201 (zk_at hR.1 rfl) rfl hp ?_
    refine Ev.aload_n (pc := 4) (n := (0, 0)) (i := 0) dX7_here_4 rfl rfl ?_
    refine Ev.gI (pc := 5) (n := (0, 0)) (x := (L : Int)) dX7_here_5 fl_X7_183 (zk_at hR.1 rfl) rfl hT.1 ?_
    refine Ev.icmp_ge (pc := 8) (n := (0, 0)) (tgt := 23) dX7_here_8 rfl (fun hc => ?_) (fun hc => absurd hc (by omega))
    refine Ev.iconst (pc := 23) (n := (0, 0)) dX7_here_23 ?_
    exact Ev.iret dX7_here_24 rfl ⟨(Nat.le_of_ble_eq_true rfl), (Nat.le_of_ble_eq_true rfl)⟩
theorem s_passF {h : zH} (hR : zRM h) {t : Int → Int} {L : Nat} : ∀ (f p : Nat) (I : Nat → Int → Int), TX I t L → I 260 11 = p → L - p ≤ f → Ev M_X7_passSpaces 0 [(0, zr (some 260))] [] (h.1, I, h.2.2) (0, 0) (.inl none, (h.1, zup I 260 11 (sk t L p : Int), h.2.2)) := by
  intro f
  induction f with
  | zero =>
    intro p I hT hp hf
    have h1 : hr t L p = -1 := if_neg (by omega)
    have h2 : sk t L p = p := rn_out (by omega)
    rw [h2, zup_id hp]
    refine Ev.aload_n (pc := 0) (n := (0, 0)) (i := 0) dX7_passSpaces_0 rfl rfl ?_
    refine Ev.callV (pc := 1) (n := (0, 0)) (ob := 260) (as := []) (st := []) (s_here hR hT hp) dX7_passSpaces_1 ok_X7_here (lk_X7_204 rfl) ⟨(Nat.le_of_ble_eq_true rfl), (Nat.le_of_ble_eq_true rfl)⟩ (zk_at hR.1 rfl) ⟨by decide, rfl⟩ rfl (Nat.le_of_ble_eq_true rfl) (Nat.le_of_ble_eq_true rfl) ⟨(Nat.le_of_ble_eq_true rfl), (Nat.le_of_ble_eq_true rfl)⟩ ?_
    refine Ev.bipush (pc := 4) (n := (0, 0)) dX7_passSpaces_4 ?_
    refine Ev.icmp_ne (pc := 6) (n := (0, 0)) (tgt := 22) dX7_passSpaces_6 rfl (fun hc => ?_) (fun hc => absurd h1 (by omega))
    exact Ev.vret dX7_passSpaces_22 rfl ⟨(Nat.le_of_ble_eq_true rfl), (Nat.le_of_ble_eq_true rfl)⟩
  | succ f ih =>
    intro p I hT hp hf
    by_cases h1 : hr t L p = 32
    · have h2 : sk t L p = sk t L (p + 1) := rn_in (by omega) (by omega)
      have hpL : p < L := hr_lt (t := t) (by omega)
      have hL := hT.2.1
      have k9 := ih (p + 1) (zup I 260 11 ((p : Int) + 1)) (hT.up (by decide) _) (zup_s _ _ _ _) (by omega)
      rw [zup_zup, ← h2] at k9
      refine Ev.aload_n (pc := 0) (n := (0, 0)) (i := 0) dX7_passSpaces_0 rfl rfl ?_
      refine Ev.callV (pc := 1) (n := (0, 0)) (ob := 260) (as := []) (st := []) (s_here hR hT hp) dX7_passSpaces_1 ok_X7_here (lk_X7_204 rfl) ⟨(Nat.le_of_ble_eq_true rfl), (Nat.le_of_ble_eq_true rfl)⟩ (zk_at hR.1 rfl) ⟨by decide, rfl⟩ rfl (Nat.le_of_ble_eq_true rfl) (Nat.le_of_ble_eq_true rfl) ⟨(Nat.le_of_ble_eq_true rfl), (Nat.le_of_ble_eq_true rfl)⟩ ?_
      refine Ev.bipush (pc := 4) (n := (0, 0)) dX7_passSpaces_4 ?_
      refine Ev.icmp_ne (pc := 6) (n := (0, 0)) (tgt := 22) dX7_passSpaces_6 rfl (fun hc => absurd h1 hc) (fun hc => ?_)
      refine Ev.aload_n (pc := 9) (n := (0, 0)) (i := 0) dX7_passSpaces_9 rfl rfl ?_
      refine Ev.dup (pc := 10) (n := (0, 0)) dX7_passSpaces_10 rfl ?_
      refine Ev.gI (pc := 11) (n := (0, 0)) (x := (p : Int)) dX7_passSpaces_11 fl_X7_201 (zk_at hR.1 rfl) rfl hp ?_
      refine Ev.iconst (pc := 14) (n := (0, 0)) dX7_passSpaces_14 ?_
      refine Ev.iadd (pc := 15) (n := (0, 0)) dX7_passSpaces_15 ⟨by omega, by omega⟩ ?_
      refine Ev.putI (pc := 16) (n := (0, 0)) dX7_passSpaces_16 fl_X7_201 (zk_at hR.1 rfl) rfl rfl (fun h9 => by cases h9) ?_
      refine Ev.goto (pc := 19) (n := (0, 0)) (tgt := 0) dX7_passSpaces_19 rfl ?_
      exact k9
    · have h2 : sk t L p = p := rn_out (by omega)
      rw [h2, zup_id hp]
      refine Ev.aload_n (pc := 0) (n := (0, 0)) (i := 0) dX7_passSpaces_0 rfl rfl ?_
      refine Ev.callV (pc := 1) (n := (0, 0)) (ob := 260) (as := []) (st := []) (s_here hR hT hp) dX7_passSpaces_1 ok_X7_here (lk_X7_204 rfl) ⟨(Nat.le_of_ble_eq_true rfl), (Nat.le_of_ble_eq_true rfl)⟩ (zk_at hR.1 rfl) ⟨by decide, rfl⟩ rfl (Nat.le_of_ble_eq_true rfl) (Nat.le_of_ble_eq_true rfl) ⟨(Nat.le_of_ble_eq_true rfl), (Nat.le_of_ble_eq_true rfl)⟩ ?_
      refine Ev.bipush (pc := 4) (n := (0, 0)) dX7_passSpaces_4 ?_
      refine Ev.icmp_ne (pc := 6) (n := (0, 0)) (tgt := 22) dX7_passSpaces_6 rfl (fun hc => ?_) (fun hc => absurd hc h1)
      exact Ev.vret dX7_passSpaces_22 rfl ⟨(Nat.le_of_ble_eq_true rfl), (Nat.le_of_ble_eq_true rfl)⟩
theorem s_passSpaces {h : zH} {I : Nat → Int → Int} (hR : zRM h) {t : Int → Int} {L : Nat} (hT : TX I t L) {p : Nat} (hp : I 260 11 = p) : Ev M_X7_passSpaces 0 [(0, zr (some 260))] [] (h.1, I, h.2.2) (0, 0) (.inl none, (h.1, zup I 260 11 (sk t L p : Int), h.2.2)) := s_passF hR (L - p) p I hT hp (Nat.le_refl _)
theorem s_word_loop {h : zH} {I : Nat → Int → Int} (hR : zRM h) {t : Int → Int} {L : Nat} (hT : TX I t L) (hb : BY t L) {p : Nat} : ∀ (f j : Nat), L - (p + j) ≤ f → (∀ i, i < j → 97 ≤ hr t L (p + i) ∧ hr t L (p + i) ≤ 122) → ∀ o : zO, Ev M_X7_word 67 [(0, zr (some 260)), (1, zl (wvF t L p (lt t L (p + j) - p))), (3, zi (p : Int))] [] (h.1, zup I 260 11 (lt t L (p + j) : Int), h.2.2) (0, 0) o → Ev M_X7_word 7 [(0, zr (some 260)), (1, zl (wvF t L p j)), (3, zi (p : Int))] [] (h.1, zup I 260 11 ((p + j : Nat) : Int), h.2.2) (0, 0) o := by
  intro f
  induction f with
  | zero =>
    intro j hf hi o hh
    have h1 : hr t L (p + j) = -1 := if_neg (by omega)
    have h2 : lt t L (p + j) = p + j := rn_out (by omega)
    rw [h2, show p + j - p = j by omega] at hh
    have h1 : ¬ (97 ≤ hr t L (p + j) ∧ hr t L (p + j) ≤ 122) := by omega
    refine Ev.aload_n (pc := 7) (n := (0, 0)) (i := 0) dX7_word_7 rfl rfl ?_
    refine Ev.callV (pc := 8) (n := (0, 0)) (ob := 260) (as := []) (st := []) (s_here hR (hT.up (by decide) _) (zup_s _ _ _ _)) dX7_word_8 ok_X7_here (lk_X7_204 rfl) ⟨(Nat.le_of_ble_eq_true rfl), (Nat.le_of_ble_eq_true rfl)⟩ (zk_at hR.1 rfl) ⟨by decide, rfl⟩ rfl (Nat.le_of_ble_eq_true rfl) (Nat.le_of_ble_eq_true rfl) ⟨(Nat.le_of_ble_eq_true rfl), (Nat.le_of_ble_eq_true rfl)⟩ ?_
    refine Ev.bipush (pc := 11) (n := (0, 0)) dX7_word_11 ?_
    refine Ev.bipush (pc := 13) (n := (0, 0)) dX7_word_13 ?_
    refine Ev.callS (pc := 15) (n := (0, 0)) (as := [zi (hr t L (p + j)), zi 97, zi 122]) (st := []) (s_in (h.1, zup I 260 11 ((p + j : Nat) : Int), h.2.2) (hr t L (p + j)) 97 122) dX7_word_15 ok_X7_in (lk_X7_91 rfl) ⟨(Nat.le_of_ble_eq_true rfl), (Nat.le_of_ble_eq_true rfl)⟩ rfl (Nat.le_of_ble_eq_true rfl) (Nat.le_of_ble_eq_true rfl) ⟨(Nat.le_of_ble_eq_true rfl), (Nat.le_of_ble_eq_true rfl)⟩ ?_
    rw [if_neg h1]
    refine Ev.if_eq (pc := 18) (n := (0, 0)) (tgt := 67) dX7_word_18 rfl (fun hc => ?_) (fun hc => absurd rfl hc)
    exact hh
  | succ f ih =>
    intro j hf hi o hh
    by_cases h1 : 97 ≤ hr t L (p + j) ∧ hr t L (p + j) ≤ 122
    · have h2 : lt t L (p + j) = lt t L (p + (j + 1)) := rn_in (by omega) h1
      rw [h2] at hh
      have hb1 := wvF_bd hi
      have hL := hT.2.1
      have hpL : p + j < L := hr_lt (t := t) (by omega)
      have k9 := ih (j + 1) (by omega) (fun i hi2 => by
        by_cases e : i = j
        · subst e; exact h1
        · exact hi i (by omega)) o hh
      have ez : wvF t L p (j + 1) = if j < 7 then 27 * wvF t L p j + hr t L (p + j) - 96 else -1 := rfl
      have K : Ev M_X7_word 53 [(0, zr (some 260)), (1, zl (wvF t L p j)), (3, zi (p : Int))] [zl (wvF t L p (j + 1))] (h.1, zup I 260 11 ((p + j : Nat) : Int), h.2.2) (0, 0) o := by
        refine Ev.lstore_n (pc := 53) (n := (0, 0)) (i := 1) (L' := [(1, zl (wvF t L p (j + 1))), (0, zr (some 260)), (3, zi (p : Int))]) dX7_word_53 rfl (Nat.le_of_ble_eq_true rfl) rfl ?_
        refine Ev.aload_n (pc := 54) (n := (0, 0)) (i := 0) dX7_word_54 rfl rfl ?_
        refine Ev.dup (pc := 55) (n := (0, 0)) dX7_word_55 rfl ?_
        refine Ev.gI (pc := 56) (n := (0, 0)) (x := ((p + j : Nat) : Int)) dX7_word_56 fl_X7_201 (zk_at hR.1 rfl) rfl (show zup I 260 11 ((p + j : Nat) : Int) 260 11 = ((p + j : Nat) : Int) from zup_s _ _ _ _) ?_
        refine Ev.iconst (pc := 59) (n := (0, 0)) dX7_word_59 ?_
        refine Ev.iadd (pc := 60) (n := (0, 0)) dX7_word_60 ⟨by omega, by omega⟩ ?_
        refine Ev.putI (pc := 61) (n := (0, 0)) dX7_word_61 fl_X7_201 (zk_at hR.1 rfl) rfl rfl (fun h9 => by cases h9) ?_
        refine Ev.hpeq (h' := (h.1, (zup I 260 11 ((p + (j + 1) : Nat) : Int)), h.2.2)) (congrArg (fun I9 => (h.1, I9, h.2.2)) (by
          show zup (zup I 260 11 ((p + j : Nat) : Int)) 260 11 (((p + j : Nat) : Int) + 1) = _
          rw [zup_zup, show ((p + j : Nat) : Int) + 1 = ((p + (j + 1) : Nat) : Int) by omega])) ?_
        refine Ev.goto (pc := 64) (n := (0, 0)) (tgt := 7) dX7_word_64 rfl ?_
        refine Ev.perm [1, 0, 2] rfl ?_
        exact k9
      refine Ev.aload_n (pc := 7) (n := (0, 0)) (i := 0) dX7_word_7 rfl rfl ?_
      refine Ev.callV (pc := 8) (n := (0, 0)) (ob := 260) (as := []) (st := []) (s_here hR (hT.up (by decide) _) (zup_s _ _ _ _)) dX7_word_8 ok_X7_here (lk_X7_204 rfl) ⟨(Nat.le_of_ble_eq_true rfl), (Nat.le_of_ble_eq_true rfl)⟩ (zk_at hR.1 rfl) ⟨by decide, rfl⟩ rfl (Nat.le_of_ble_eq_true rfl) (Nat.le_of_ble_eq_true rfl) ⟨(Nat.le_of_ble_eq_true rfl), (Nat.le_of_ble_eq_true rfl)⟩ ?_
      refine Ev.bipush (pc := 11) (n := (0, 0)) dX7_word_11 ?_
      refine Ev.bipush (pc := 13) (n := (0, 0)) dX7_word_13 ?_
      refine Ev.callS (pc := 15) (n := (0, 0)) (as := [zi (hr t L (p + j)), zi 97, zi 122]) (st := []) (s_in (h.1, zup I 260 11 ((p + j : Nat) : Int), h.2.2) (hr t L (p + j)) 97 122) dX7_word_15 ok_X7_in (lk_X7_91 rfl) ⟨(Nat.le_of_ble_eq_true rfl), (Nat.le_of_ble_eq_true rfl)⟩ rfl (Nat.le_of_ble_eq_true rfl) (Nat.le_of_ble_eq_true rfl) ⟨(Nat.le_of_ble_eq_true rfl), (Nat.le_of_ble_eq_true rfl)⟩ ?_
      rw [if_pos h1]
      refine Ev.if_eq (pc := 18) (n := (0, 0)) (tgt := 67) dX7_word_18 rfl (fun hc => absurd hc (by decide)) (fun hc => ?_)
      refine Ev.aload_n (pc := 21) (n := (0, 0)) (i := 0) dX7_word_21 rfl rfl ?_
      refine Ev.gI (pc := 22) (n := (0, 0)) (x := ((p + j : Nat) : Int)) dX7_word_22 fl_X7_201 (zk_at hR.1 rfl) rfl (show zup I 260 11 ((p + j : Nat) : Int) 260 11 = ((p + j : Nat) : Int) from zup_s _ _ _ _) ?_
      refine Ev.iload_n (pc := 25) (n := (0, 0)) (i := 3) dX7_word_25 rfl rfl ?_
      refine Ev.isub (pc := 26) (n := (0, 0)) dX7_word_26 ⟨by omega, by omega⟩ ?_
      refine Ev.bipush (pc := 27) (n := (0, 0)) dX7_word_27 ?_
      by_cases h7 : j < 7
      · skip
        refine Ev.icmp_ge (pc := 29) (n := (0, 0)) (tgt := 50) dX7_word_29 rfl (fun hc2 => absurd hc2 (by omega)) (fun hc2 => ?_)
        refine Ev.ldc2 (pc := 32) (n := (0, 0)) (own := "") dX7_word_32 (lc_X7_207 rfl) ?_
        refine Ev.lload_n (pc := 35) (n := (0, 0)) (i := 1) dX7_word_35 rfl rfl ?_
        refine Ev.lmul (pc := 36) (n := (0, 0)) dX7_word_36 ?_
        refine Ev.aload_n (pc := 37) (n := (0, 0)) (i := 0) dX7_word_37 rfl rfl ?_
        refine Ev.callV (pc := 38) (n := (0, 0)) (ob := 260) (as := []) (st := [zl (zw (27 * (wvF t L p j)))]) (s_here hR (hT.up (by decide) _) (zup_s _ _ _ _)) dX7_word_38 ok_X7_here (lk_X7_204 rfl) ⟨(Nat.le_of_ble_eq_true rfl), (Nat.le_of_ble_eq_true rfl)⟩ (zk_at hR.1 rfl) ⟨by decide, rfl⟩ rfl (Nat.le_of_ble_eq_true rfl) (Nat.le_of_ble_eq_true rfl) ⟨(Nat.le_of_ble_eq_true rfl), (Nat.le_of_ble_eq_true rfl)⟩ ?_
        refine Ev.i2l (pc := 41) (n := (0, 0)) dX7_word_41 ?_
        refine Ev.ladd (pc := 42) (n := (0, 0)) dX7_word_42 ?_
        refine Ev.ldc2 (pc := 43) (n := (0, 0)) (own := "") dX7_word_43 (lc_X7_209 rfl) ?_
        refine Ev.lsub (pc := 46) (n := (0, 0)) dX7_word_46 ?_
        have ew : (zw ((zw ((zw (27 * (wvF t L p j))) + (hr t L (p + j)))) - 96)) = wvF t L p (j + 1) := by
          rw [ez, if_pos h7, zw_id (x := 27 * wvF t L p j) (by unfold zinL; omega), zw_id (x := 27 * wvF t L p j + hr t L (p + j)) (by unfold zinL; omega), zw_id (by unfold zinL; omega)]
        rw [ew]
        refine Ev.goto (pc := 47) (n := (0, 0)) (tgt := 53) dX7_word_47 rfl ?_
        exact K
      · skip
        refine Ev.icmp_ge (pc := 29) (n := (0, 0)) (tgt := 50) dX7_word_29 rfl (fun hc2 => ?_) (fun hc2 => absurd hc2 (by omega))
        rw [ez, if_neg h7] at K
        refine Ev.ldc2 (pc := 50) (n := (0, 0)) (own := "") dX7_word_50 (lc_X7_211 rfl) ?_
        exact K
    · have h2 : lt t L (p + j) = p + j := rn_out h1
      rw [h2, show p + j - p = j by omega] at hh
      refine Ev.aload_n (pc := 7) (n := (0, 0)) (i := 0) dX7_word_7 rfl rfl ?_
      refine Ev.callV (pc := 8) (n := (0, 0)) (ob := 260) (as := []) (st := []) (s_here hR (hT.up (by decide) _) (zup_s _ _ _ _)) dX7_word_8 ok_X7_here (lk_X7_204 rfl) ⟨(Nat.le_of_ble_eq_true rfl), (Nat.le_of_ble_eq_true rfl)⟩ (zk_at hR.1 rfl) ⟨by decide, rfl⟩ rfl (Nat.le_of_ble_eq_true rfl) (Nat.le_of_ble_eq_true rfl) ⟨(Nat.le_of_ble_eq_true rfl), (Nat.le_of_ble_eq_true rfl)⟩ ?_
      refine Ev.bipush (pc := 11) (n := (0, 0)) dX7_word_11 ?_
      refine Ev.bipush (pc := 13) (n := (0, 0)) dX7_word_13 ?_
      refine Ev.callS (pc := 15) (n := (0, 0)) (as := [zi (hr t L (p + j)), zi 97, zi 122]) (st := []) (s_in (h.1, zup I 260 11 ((p + j : Nat) : Int), h.2.2) (hr t L (p + j)) 97 122) dX7_word_15 ok_X7_in (lk_X7_91 rfl) ⟨(Nat.le_of_ble_eq_true rfl), (Nat.le_of_ble_eq_true rfl)⟩ rfl (Nat.le_of_ble_eq_true rfl) (Nat.le_of_ble_eq_true rfl) ⟨(Nat.le_of_ble_eq_true rfl), (Nat.le_of_ble_eq_true rfl)⟩ ?_
      rw [if_neg h1]
      refine Ev.if_eq (pc := 18) (n := (0, 0)) (tgt := 67) dX7_word_18 rfl (fun hc => ?_) (fun hc => absurd rfl hc)
      exact hh
theorem s_word {h : zH} {I : Nat → Int → Int} (hR : zRM h) {t : Int → Int} {L : Nat} (hT : TX I t L) (hb : BY t L) {p : Nat} (hp : I 260 11 = p) : Ev M_X7_word 0 [(0, zr (some 260))] [] (h.1, I, h.2.2) (0, 0) (.inl (some (zi (kd t L p))), (h.1, zup I 260 11 ((if kd t L p = 0 then p else lt t L p : Nat) : Int), h.2.2)) := by
  refine Ev.lconst (pc := 0) (n := (0, 0)) (x := 0) dX7_word_0 rfl ?_
  refine Ev.lstore_n (pc := 1) (n := (0, 0)) (i := 1) (L' := [(1, zl 0), (0, zr (some 260))]) dX7_word_1 rfl (Nat.le_of_ble_eq_true rfl) rfl ?_
  refine Ev.aload_n (pc := 2) (n := (0, 0)) (i := 0) dX7_word_2 rfl rfl ?_
  refine Ev.gI (pc := 3) (n := (0, 0)) (x := (p : Int)) dX7_word_3 fl_X7_201 (zk_at hR.1 rfl) rfl hp ?_
  refine Ev.istore_n (pc := 6) (n := (0, 0)) (i := 3) (L' := [(3, zi (p : Int)), (1, zl 0), (0, zr (some 260))]) dX7_word_6 rfl (Nat.le_of_ble_eq_true rfl) rfl ?_
  refine Ev.perm [2, 1, 0] rfl ?_
  have k0 := s_word_loop hR hT hb (p := p) (L - p) 0 (by omega) (fun i hi => absurd hi (Nat.not_lt_zero _)) (.inl (some (zi (kd t L p))), (h.1, zup I 260 11 ((if kd t L p = 0 then p else lt t L p : Nat) : Int), h.2.2))
  have e0 : zup I 260 11 ((p + 0 : Nat) : Int) = I := zup_id hp
  rw [e0] at k0
  refine k0 ?_
  have ek : kindW (wvF t L p (lt t L p - p)) = kd t L p := rfl
  rw [Nat.add_zero]
  generalize wvF t L p (lt t L p - p) = w at ek ⊢
  suffices K : ∀ v : Int, v = kindW w → Ev M_X7_word 167 [(0, zr (some 260)), (1, zl w), (3, zi (p : Int))] [zi v] (h.1, zup I 260 11 ((lt t L p : Nat) : Int), h.2.2) (0, 0) (.inl (some (zi (kd t L p))), (h.1, zup I 260 11 ((if kd t L p = 0 then p else lt t L p : Nat) : Int), h.2.2)) by
    refine Ev.lload_n (pc := 67) (n := (0, 0)) (i := 1) dX7_word_67 rfl rfl ?_
    refine Ev.ldc2 (pc := 68) (n := (0, 0)) (own := "") dX7_word_68 (lc_X7_213 rfl) ?_
    refine Ev.lcmp (pc := 71) (n := (0, 0)) dX7_word_71 ?_
    by_cases h0 : w = 4085899
    · skip
      rw [lcm_eq h0]
      refine Ev.if_ne (pc := 72) (n := (0, 0)) (tgt := 79) dX7_word_72 rfl (fun hc => absurd rfl hc) (fun hc => ?_)
      refine Ev.iconst (pc := 75) (n := (0, 0)) dX7_word_75 ?_
      refine Ev.goto (pc := 76) (n := (0, 0)) (tgt := 167) dX7_word_76 rfl ?_
      exact K 1 (by unfold kindW; rw [if_pos h0])
    · skip
      refine Ev.if_ne (pc := 72) (n := (0, 0)) (tgt := 79) dX7_word_72 rfl (fun hc => ?_) (fun hc => absurd hc (lcm_ne h0))
      refine Ev.lload_n (pc := 79) (n := (0, 0)) (i := 1) dX7_word_79 rfl rfl ?_
      refine Ev.ldc2 (pc := 80) (n := (0, 0)) (own := "") dX7_word_80 (lc_X7_215 rfl) ?_
      refine Ev.lcmp (pc := 83) (n := (0, 0)) dX7_word_83 ?_
      by_cases h1 : w = 394913
      · skip
        rw [lcm_eq h1]
        refine Ev.if_ne (pc := 84) (n := (0, 0)) (tgt := 91) dX7_word_84 rfl (fun hc => absurd rfl hc) (fun hc => ?_)
        refine Ev.iconst (pc := 87) (n := (0, 0)) dX7_word_87 ?_
        refine Ev.goto (pc := 88) (n := (0, 0)) (tgt := 167) dX7_word_88 rfl ?_
        exact K 2 (by unfold kindW; rw [if_neg h0, if_pos h1])
      · skip
        refine Ev.if_ne (pc := 84) (n := (0, 0)) (tgt := 91) dX7_word_84 rfl (fun hc => ?_) (fun hc => absurd hc (lcm_ne h1))
        refine Ev.lload_n (pc := 91) (n := (0, 0)) (i := 1) dX7_word_91 rfl rfl ?_
        refine Ev.ldc2 (pc := 92) (n := (0, 0)) (own := "") dX7_word_92 (lc_X7_217 rfl) ?_
        refine Ev.lcmp (pc := 95) (n := (0, 0)) dX7_word_95 ?_
        by_cases h2 : w = 237458
        · skip
          rw [lcm_eq h2]
          refine Ev.if_ne (pc := 96) (n := (0, 0)) (tgt := 103) dX7_word_96 rfl (fun hc => absurd rfl hc) (fun hc => ?_)
          refine Ev.iconst (pc := 99) (n := (0, 0)) dX7_word_99 ?_
          refine Ev.goto (pc := 100) (n := (0, 0)) (tgt := 167) dX7_word_100 rfl ?_
          exact K 3 (by unfold kindW; rw [if_neg h0, if_neg h1, if_pos h2])
        · skip
          refine Ev.if_ne (pc := 96) (n := (0, 0)) (tgt := 103) dX7_word_96 rfl (fun hc => ?_) (fun hc => absurd hc (lcm_ne h2))
          refine Ev.lload_n (pc := 103) (n := (0, 0)) (i := 1) dX7_word_103 rfl rfl ?_
          refine Ev.ldc2 (pc := 104) (n := (0, 0)) (own := "") dX7_word_104 (lc_X7_219 rfl) ?_
          refine Ev.lcmp (pc := 107) (n := (0, 0)) dX7_word_107 ?_
          by_cases h3 : w = 37037273
          · skip
            rw [lcm_eq h3]
            refine Ev.if_ne (pc := 108) (n := (0, 0)) (tgt := 115) dX7_word_108 rfl (fun hc => absurd rfl hc) (fun hc => ?_)
            refine Ev.iconst (pc := 111) (n := (0, 0)) dX7_word_111 ?_
            refine Ev.goto (pc := 112) (n := (0, 0)) (tgt := 167) dX7_word_112 rfl ?_
            exact K 4 (by unfold kindW; rw [if_neg h0, if_neg h1, if_neg h2, if_pos h3])
          · skip
            refine Ev.if_ne (pc := 108) (n := (0, 0)) (tgt := 115) dX7_word_108 rfl (fun hc => ?_) (fun hc => absurd hc (lcm_ne h3))
            refine Ev.lload_n (pc := 115) (n := (0, 0)) (i := 1) dX7_word_115 rfl rfl ?_
            refine Ev.ldc2 (pc := 116) (n := (0, 0)) (own := "") dX7_word_116 (lc_X7_221 rfl) ?_
            refine Ev.lcmp (pc := 119) (n := (0, 0)) dX7_word_119 ?_
            by_cases h4 : w = 40187
            · skip
              rw [lcm_eq h4]
              refine Ev.if_ne (pc := 120) (n := (0, 0)) (tgt := 127) dX7_word_120 rfl (fun hc => absurd rfl hc) (fun hc => ?_)
              refine Ev.iconst (pc := 123) (n := (0, 0)) dX7_word_123 ?_
              refine Ev.goto (pc := 124) (n := (0, 0)) (tgt := 167) dX7_word_124 rfl ?_
              exact K 5 (by unfold kindW; rw [if_neg h0, if_neg h1, if_neg h2, if_neg h3, if_pos h4])
            · skip
              refine Ev.if_ne (pc := 120) (n := (0, 0)) (tgt := 127) dX7_word_120 rfl (fun hc => ?_) (fun hc => absurd hc (lcm_ne h4))
              refine Ev.lload_n (pc := 127) (n := (0, 0)) (i := 1) dX7_word_127 rfl rfl ?_
              refine Ev.ldc2 (pc := 128) (n := (0, 0)) (own := "") dX7_word_128 (lc_X7_223 rfl) ?_
              refine Ev.lcmp (pc := 131) (n := (0, 0)) dX7_word_131 ?_
              by_cases h5 : w = 267413
              · skip
                rw [lcm_eq h5]
                refine Ev.if_ne (pc := 132) (n := (0, 0)) (tgt := 140) dX7_word_132 rfl (fun hc => absurd rfl hc) (fun hc => ?_)
                refine Ev.bipush (pc := 135) (n := (0, 0)) dX7_word_135 ?_
                refine Ev.goto (pc := 137) (n := (0, 0)) (tgt := 167) dX7_word_137 rfl ?_
                exact K 6 (by unfold kindW; rw [if_neg h0, if_neg h1, if_neg h2, if_neg h3, if_neg h4, if_pos h5])
              · skip
                refine Ev.if_ne (pc := 132) (n := (0, 0)) (tgt := 140) dX7_word_132 rfl (fun hc => ?_) (fun hc => absurd hc (lcm_ne h5))
                refine Ev.lload_n (pc := 140) (n := (0, 0)) (i := 1) dX7_word_140 rfl rfl ?_
                refine Ev.ldc2 (pc := 141) (n := (0, 0)) (own := "") dX7_word_141 (lc_X7_225 rfl) ?_
                refine Ev.lcmp (pc := 144) (n := (0, 0)) dX7_word_144 ?_
                by_cases h6 : w = 92275
                · skip
                  rw [lcm_eq h6]
                  refine Ev.if_ne (pc := 145) (n := (0, 0)) (tgt := 153) dX7_word_145 rfl (fun hc => absurd rfl hc) (fun hc => ?_)
                  refine Ev.bipush (pc := 148) (n := (0, 0)) dX7_word_148 ?_
                  refine Ev.goto (pc := 150) (n := (0, 0)) (tgt := 167) dX7_word_150 rfl ?_
                  exact K 7 (by unfold kindW; rw [if_neg h0, if_neg h1, if_neg h2, if_neg h3, if_neg h4, if_neg h5, if_pos h6])
                · skip
                  refine Ev.if_ne (pc := 145) (n := (0, 0)) (tgt := 153) dX7_word_145 rfl (fun hc => ?_) (fun hc => absurd hc (lcm_ne h6))
                  refine Ev.lload_n (pc := 153) (n := (0, 0)) (i := 1) dX7_word_153 rfl rfl ?_
                  refine Ev.ldc2 (pc := 154) (n := (0, 0)) (own := "") dX7_word_154 (lc_X7_227 rfl) ?_
                  refine Ev.lcmp (pc := 157) (n := (0, 0)) dX7_word_157 ?_
                  by_cases h7 : w = 11450658
                  · skip
                    rw [lcm_eq h7]
                    refine Ev.if_ne (pc := 158) (n := (0, 0)) (tgt := 166) dX7_word_158 rfl (fun hc => absurd rfl hc) (fun hc => ?_)
                    refine Ev.bipush (pc := 161) (n := (0, 0)) dX7_word_161 ?_
                    refine Ev.goto (pc := 163) (n := (0, 0)) (tgt := 167) dX7_word_163 rfl ?_
                    exact K 8 (by unfold kindW; rw [if_neg h0, if_neg h1, if_neg h2, if_neg h3, if_neg h4, if_neg h5, if_neg h6, if_pos h7])
                  · skip
                    refine Ev.if_ne (pc := 158) (n := (0, 0)) (tgt := 166) dX7_word_158 rfl (fun hc => ?_) (fun hc => absurd hc (lcm_ne h7))
                    refine Ev.iconst (pc := 166) (n := (0, 0)) dX7_word_166 ?_
                    exact K 0 (by unfold kindW; rw [if_neg h0, if_neg h1, if_neg h2, if_neg h3, if_neg h4, if_neg h5, if_neg h6, if_neg h7])
  intro v hv
  rw [ek] at hv
  subst hv
  refine Ev.istore (pc := 167) (n := (0, 0)) (i := 4) (L' := [(4, zi (kd t L p)), (0, zr (some 260)), (1, zl w), (3, zi (p : Int))]) dX7_word_167 (Nat.le_of_ble_eq_true rfl) rfl ?_
  refine Ev.aload_n (pc := 169) (n := (0, 0)) (i := 0) dX7_word_169 rfl rfl ?_
  refine Ev.iload (pc := 170) (n := (0, 0)) dX7_word_170 rfl ?_
  by_cases hk : kd t L p = 0
  · skip
    refine Ev.if_ne (pc := 172) (n := (0, 0)) (tgt := 179) dX7_word_172 rfl (fun hc => absurd hk hc) (fun hc => ?_)
    refine Ev.iload_n (pc := 175) (n := (0, 0)) (i := 3) dX7_word_175 rfl rfl ?_
    refine Ev.goto (pc := 176) (n := (0, 0)) (tgt := 183) dX7_word_176 rfl ?_
    refine Ev.putI (pc := 183) (n := (0, 0)) dX7_word_183 fl_X7_201 (zk_at hR.1 rfl) rfl rfl (fun h9 => by cases h9) ?_
    refine Ev.hpeq (h' := (h.1, (zup I 260 11 ((if kd t L p = 0 then p else lt t L p : Nat) : Int)), h.2.2)) (congrArg (fun I9 => (h.1, I9, h.2.2)) (by
  show zup (zup I 260 11 ((lt t L p : Nat) : Int)) 260 11 (p : Int) = _
  rw [zup_zup, if_pos hk])) ?_
    refine Ev.iload (pc := 186) (n := (0, 0)) dX7_word_186 rfl ?_
    exact Ev.iret dX7_word_188 rfl ⟨(Nat.le_of_ble_eq_true rfl), (Nat.le_of_ble_eq_true rfl)⟩
  · skip
    refine Ev.if_ne (pc := 172) (n := (0, 0)) (tgt := 179) dX7_word_172 rfl (fun hc => ?_) (fun hc => absurd hc hk)
    refine Ev.aload_n (pc := 179) (n := (0, 0)) (i := 0) dX7_word_179 rfl rfl ?_
    refine Ev.gI (pc := 180) (n := (0, 0)) (x := ((lt t L p : Nat) : Int)) dX7_word_180 fl_X7_201 (zk_at hR.1 rfl) rfl (show zup I 260 11 ((lt t L p : Nat) : Int) 260 11 = ((lt t L p : Nat) : Int) from zup_s _ _ _ _) ?_
    refine Ev.putI (pc := 183) (n := (0, 0)) dX7_word_183 fl_X7_201 (zk_at hR.1 rfl) rfl rfl (fun h9 => by cases h9) ?_
    refine Ev.hpeq (h' := (h.1, (zup I 260 11 ((if kd t L p = 0 then p else lt t L p : Nat) : Int)), h.2.2)) (congrArg (fun I9 => (h.1, I9, h.2.2)) (by
  show zup (zup I 260 11 ((lt t L p : Nat) : Int)) 260 11 ((lt t L p : Nat) : Int) = _
  rw [zup_zup, if_neg hk])) ?_
    refine Ev.iload (pc := 186) (n := (0, 0)) dX7_word_186 rfl ?_
    exact Ev.iret dX7_word_188 rfl ⟨(Nat.le_of_ble_eq_true rfl), (Nat.le_of_ble_eq_true rfl)⟩
def nOf (k : Int) : Int := if k = 2 ∨ k = 6 then 3 else if 6 < k then 1 else 2
theorem s_numbersOf (h : zH) (k : Int) : Ev M_X7_numbersOf 0 [(0, zi k)] [] h (0, 0) (.inl (some (zi (nOf k))), h) := by
  unfold nOf
  refine Ev.iload_n (pc := 0) (n := (0, 0)) (i := 0) dX7_numbersOf_0 rfl rfl ?_
  refine Ev.iconst (pc := 1) (n := (0, 0)) dX7_numbersOf_1 ?_
  refine Ev.icmp_eq (pc := 2) (n := (0, 0)) (tgt := 11) dX7_numbersOf_2 rfl (fun h1 => ?_) (fun h1 => ?_)
  · skip
    rw [if_pos (by omega)]
    refine Ev.iconst (pc := 11) (n := (0, 0)) dX7_numbersOf_11 ?_
    refine Ev.goto (pc := 12) (n := (0, 0)) (tgt := 26) dX7_numbersOf_12 rfl ?_
    exact Ev.iret dX7_numbersOf_26 rfl ⟨(Nat.le_of_ble_eq_true rfl), (Nat.le_of_ble_eq_true rfl)⟩
  · skip
    refine Ev.iload_n (pc := 5) (n := (0, 0)) (i := 0) dX7_numbersOf_5 rfl rfl ?_
    refine Ev.bipush (pc := 6) (n := (0, 0)) dX7_numbersOf_6 ?_
    refine Ev.icmp_ne (pc := 8) (n := (0, 0)) (tgt := 15) dX7_numbersOf_8 rfl (fun h2 => ?_) (fun h2 => ?_)
    · skip
      rw [if_neg (by omega)]
      refine Ev.iload_n (pc := 15) (n := (0, 0)) (i := 0) dX7_numbersOf_15 rfl rfl ?_
      refine Ev.bipush (pc := 16) (n := (0, 0)) dX7_numbersOf_16 ?_
      refine Ev.icmp_le (pc := 18) (n := (0, 0)) (tgt := 25) dX7_numbersOf_18 rfl (fun h3 => ?_) (fun h3 => ?_)
      · skip
        rw [if_neg (by omega)]
        refine Ev.iconst (pc := 25) (n := (0, 0)) dX7_numbersOf_25 ?_
        exact Ev.iret dX7_numbersOf_26 rfl ⟨(Nat.le_of_ble_eq_true rfl), (Nat.le_of_ble_eq_true rfl)⟩
      · skip
        rw [if_pos (by omega)]
        refine Ev.iconst (pc := 21) (n := (0, 0)) dX7_numbersOf_21 ?_
        refine Ev.goto (pc := 22) (n := (0, 0)) (tgt := 26) dX7_numbersOf_22 rfl ?_
        exact Ev.iret dX7_numbersOf_26 rfl ⟨(Nat.le_of_ble_eq_true rfl), (Nat.le_of_ble_eq_true rfl)⟩
    · skip
      rw [if_pos (by omega)]
      refine Ev.iconst (pc := 11) (n := (0, 0)) dX7_numbersOf_11 ?_
      refine Ev.goto (pc := 12) (n := (0, 0)) (tgt := 26) dX7_numbersOf_12 rfl ?_
      exact Ev.iret dX7_numbersOf_26 rfl ⟨(Nat.le_of_ble_eq_true rfl), (Nat.le_of_ble_eq_true rfl)⟩
